/-! THE CLASS'S STATE: k f i is the i-th place of its field f (the Model's numbers where both have it; 60 + 4 q + s: what the law object q says of step s; 100 + 2 * c: the hours of case c; 101 + 2 * c: its papers), ad the addresses, w the hopeless rows, g what a later cell is -/
abbrev hm_AD : Type := Nat → Nat → Nat
abbrev hm_W : Type := Nat → Nat → Int64
def hm_lb (q : Nat) : Nat := if q = 0 then 29 else 31 + 6 * q
def hm_cC (k : hm_M) (ad : hm_AD) (w : hm_W) : List va_E := [.inr (7, [.ref 5, .ref 6, .ref 7, .ref 17, .ref 25, .ref 27, .ref 28, .ref (hm_lb (ad 0 4)), .ref 35, .int (k 31 0), .int (k 17 0), .ref 36, .int (k 23 0), .int (k 32 0)]), .inl (0, 3, .inl (k 0)), .inl (0, 3, .inl (k 1)), .inr (0, [.ref 8, .int (k 2 0), .ref 9, .ref 10, .ref 11, .int (k 36 0), .ref 12]), .inl (0, 12, .inl (k 3)), .inl (0, 4, .inl (k 37)), .inl (0, 4, .inl (k 38)), .inl (0, 4, .inl (k 39)), .inl (4, 4, .inr (.inr (.inr (.inr (fun i => if i < 4 then some (13 + i) else none))))), .inl (1, 64, .inr (.inl (w 0))), .inl (1, 64, .inr (.inl (w 1))), .inl (1, 64, .inr (.inl (w 2))), .inl (1, 64, .inr (.inl (w 3))), .inr (4, [.ref 18]), .inl (3, 6, .inr (.inr (.inr (.inr (fun i => if i < 6 then some (19 + i) else none))))), .inl (0, 400, .inl (k 40)), .inl (0, 400, .inl (k 41)), .inl (0, 400, .inl (k 42)), .inl (0, 400, .inl (k 43)), .inl (0, 400, .inl (k 44)), .inl (0, 400, .inl (k 45)), .inr (6, [.ref 26, .int (k 7 0)]), .inl (0, 100, .inl (k 6)), .inr (3, [.int (k 8 0), .int (k 46 0), .int (k 47 0), .int (k 48 0), .int (k 49 0), .int (k 50 0), .int (k 51 0)]), .inl (5, 4, .inr (.inr (.inr (.inr (fun i => if i < 4 then some (hm_lb (ad 0 i)) else none))))), .inr (2, [.ref 30]), .inl (3, 4, .inr (.inr (.inr (.inr (fun i => if i < 4 then some (31 + i) else none))))), .inl (0, 5, .inl (k 60)), .inl (0, 5, .inl (k 61)), .inl (0, 5, .inl (k 62)), .inl (0, 5, .inl (k 63)), .inr (9, [.int (k 52 0), .ref (ad 3 0), .int (k 9 0)]), .inr (9, [.int (k 53 0), .ref (ad 4 0), .int (k 18 0)]), .inr (2, [.ref 38]), .inl (3, 4, .inr (.inr (.inr (.inr (fun i => if i < 4 then some (39 + i) else none))))), .inl (0, 5, .inl (k 64)), .inl (0, 5, .inl (k 65)), .inl (0, 5, .inl (k 66)), .inl (0, 5, .inl (k 67)), .inr (2, [.ref 44]), .inl (3, 4, .inr (.inr (.inr (.inr (fun i => if i < 4 then some (45 + i) else none))))), .inl (0, 5, .inl (k 68)), .inl (0, 5, .inl (k 69)), .inl (0, 5, .inl (k 70)), .inl (0, 5, .inl (k 71)), .inr (2, [.ref 50]), .inl (3, 4, .inr (.inr (.inr (.inr (fun i => if i < 4 then some (51 + i) else none))))), .inl (0, 5, .inl (k 72)), .inl (0, 5, .inl (k 73)), .inl (0, 5, .inl (k 74)), .inl (0, 5, .inl (k 75)), .inr (2, [.ref 56]), .inl (3, 4, .inr (.inr (.inr (.inr (fun i => if i < 4 then some (57 + i) else none))))), .inl (0, 5, .inl (k 76)), .inl (0, 5, .inl (k 77)), .inl (0, 5, .inl (k 78)), .inl (0, 5, .inl (k 79))]
abbrev hm_hC (k : hm_M) (ad : hm_AD) (w : hm_W) (h : Nat → Option va_E) (n s : Nat) : hm_H := (hm_seg 4 (hm_cC k ad w) h, n, s)
theorem hm_cC_c {k k2 : hm_M} {ad : hm_AD} {w : hm_W} (h : ∀ j, j < 80 → k2 j = k j) : hm_cC k2 ad w = hm_cC k ad w := by
  unfold hm_cC
  rw [h 0 (by decide), h 1 (by decide), h 2 (by decide), h 3 (by decide), h 6 (by decide), h 7 (by decide), h 8 (by decide), h 9 (by decide), h 17 (by decide), h 18 (by decide), h 23 (by decide), h 31 (by decide), h 32 (by decide), h 36 (by decide), h 37 (by decide), h 38 (by decide), h 39 (by decide), h 40 (by decide), h 41 (by decide), h 42 (by decide), h 43 (by decide), h 44 (by decide), h 45 (by decide), h 46 (by decide), h 47 (by decide), h 48 (by decide), h 49 (by decide), h 50 (by decide), h 51 (by decide), h 52 (by decide), h 53 (by decide), h 60 (by decide), h 61 (by decide), h 62 (by decide), h 63 (by decide), h 64 (by decide), h 65 (by decide), h 66 (by decide), h 67 (by decide), h 68 (by decide), h 69 (by decide), h 70 (by decide), h 71 (by decide), h 72 (by decide), h 73 (by decide), h 74 (by decide), h 75 (by decide), h 76 (by decide), h 77 (by decide), h 78 (by decide), h 79 (by decide)]
section WC
variable {k : hm_M} {ad : hm_AD} {w : hm_W} {h : Nat → Option va_E} {n s : Nat}
theorem wC_0 (f : Nat → Int32) : hm_set (hm_hC k ad w h n s) 5 (.inl (0, 3, .inl f)) = hm_hC (hm_uM k 0 f) ad w h n s := hm_seg_set (k := 1) (Nat.le_of_ble_eq_true rfl) rfl rfl
theorem wC_1 (f : Nat → Int32) : hm_set (hm_hC k ad w h n s) 6 (.inl (0, 3, .inl f)) = hm_hC (hm_uM k 1 f) ad w h n s := hm_seg_set (k := 2) (Nat.le_of_ble_eq_true rfl) rfl rfl
theorem wC_3 (f : Nat → Int32) : hm_set (hm_hC k ad w h n s) 8 (.inl (0, 12, .inl f)) = hm_hC (hm_uM k 3 f) ad w h n s := hm_seg_set (k := 4) (Nat.le_of_ble_eq_true rfl) rfl rfl
theorem wC_37 (f : Nat → Int32) : hm_set (hm_hC k ad w h n s) 9 (.inl (0, 4, .inl f)) = hm_hC (hm_uM k 37 f) ad w h n s := hm_seg_set (k := 5) (Nat.le_of_ble_eq_true rfl) rfl rfl
theorem wC_38 (f : Nat → Int32) : hm_set (hm_hC k ad w h n s) 10 (.inl (0, 4, .inl f)) = hm_hC (hm_uM k 38 f) ad w h n s := hm_seg_set (k := 6) (Nat.le_of_ble_eq_true rfl) rfl rfl
theorem wC_39 (f : Nat → Int32) : hm_set (hm_hC k ad w h n s) 11 (.inl (0, 4, .inl f)) = hm_hC (hm_uM k 39 f) ad w h n s := hm_seg_set (k := 7) (Nat.le_of_ble_eq_true rfl) rfl rfl
theorem wC_40 (f : Nat → Int32) : hm_set (hm_hC k ad w h n s) 19 (.inl (0, 400, .inl f)) = hm_hC (hm_uM k 40 f) ad w h n s := hm_seg_set (k := 15) (Nat.le_of_ble_eq_true rfl) rfl rfl
theorem wC_41 (f : Nat → Int32) : hm_set (hm_hC k ad w h n s) 20 (.inl (0, 400, .inl f)) = hm_hC (hm_uM k 41 f) ad w h n s := hm_seg_set (k := 16) (Nat.le_of_ble_eq_true rfl) rfl rfl
theorem wC_42 (f : Nat → Int32) : hm_set (hm_hC k ad w h n s) 21 (.inl (0, 400, .inl f)) = hm_hC (hm_uM k 42 f) ad w h n s := hm_seg_set (k := 17) (Nat.le_of_ble_eq_true rfl) rfl rfl
theorem wC_43 (f : Nat → Int32) : hm_set (hm_hC k ad w h n s) 22 (.inl (0, 400, .inl f)) = hm_hC (hm_uM k 43 f) ad w h n s := hm_seg_set (k := 18) (Nat.le_of_ble_eq_true rfl) rfl rfl
theorem wC_44 (f : Nat → Int32) : hm_set (hm_hC k ad w h n s) 23 (.inl (0, 400, .inl f)) = hm_hC (hm_uM k 44 f) ad w h n s := hm_seg_set (k := 19) (Nat.le_of_ble_eq_true rfl) rfl rfl
theorem wC_45 (f : Nat → Int32) : hm_set (hm_hC k ad w h n s) 24 (.inl (0, 400, .inl f)) = hm_hC (hm_uM k 45 f) ad w h n s := hm_seg_set (k := 20) (Nat.le_of_ble_eq_true rfl) rfl rfl
theorem wC_6 (f : Nat → Int32) : hm_set (hm_hC k ad w h n s) 26 (.inl (0, 100, .inl f)) = hm_hC (hm_uM k 6 f) ad w h n s := hm_seg_set (k := 22) (Nat.le_of_ble_eq_true rfl) rfl rfl
theorem wC_31 (x : Int32) : hm_set (hm_hC k ad w h n s) 4 (.inr (7, ([.ref 5, .ref 6, .ref 7, .ref 17, .ref 25, .ref 27, .ref 28, .ref (hm_lb (ad 0 4)), .ref 35, .int (k 31 0), .int (k 17 0), .ref 36, .int (k 23 0), .int (k 32 0)] : List Value).set 9 (.int x))) = hm_hC (hm_uM k 31 (fun _ => x)) ad w h n s := hm_seg_set (k := 0) (Nat.le_of_ble_eq_true rfl) rfl rfl
theorem wC_17 (x : Int32) : hm_set (hm_hC k ad w h n s) 4 (.inr (7, ([.ref 5, .ref 6, .ref 7, .ref 17, .ref 25, .ref 27, .ref 28, .ref (hm_lb (ad 0 4)), .ref 35, .int (k 31 0), .int (k 17 0), .ref 36, .int (k 23 0), .int (k 32 0)] : List Value).set 10 (.int x))) = hm_hC (hm_uM k 17 (fun _ => x)) ad w h n s := hm_seg_set (k := 0) (Nat.le_of_ble_eq_true rfl) rfl rfl
theorem wC_23 (x : Int32) : hm_set (hm_hC k ad w h n s) 4 (.inr (7, ([.ref 5, .ref 6, .ref 7, .ref 17, .ref 25, .ref 27, .ref 28, .ref (hm_lb (ad 0 4)), .ref 35, .int (k 31 0), .int (k 17 0), .ref 36, .int (k 23 0), .int (k 32 0)] : List Value).set 12 (.int x))) = hm_hC (hm_uM k 23 (fun _ => x)) ad w h n s := hm_seg_set (k := 0) (Nat.le_of_ble_eq_true rfl) rfl rfl
theorem wC_32 (x : Int32) : hm_set (hm_hC k ad w h n s) 4 (.inr (7, ([.ref 5, .ref 6, .ref 7, .ref 17, .ref 25, .ref 27, .ref 28, .ref (hm_lb (ad 0 4)), .ref 35, .int (k 31 0), .int (k 17 0), .ref 36, .int (k 23 0), .int (k 32 0)] : List Value).set 13 (.int x))) = hm_hC (hm_uM k 32 (fun _ => x)) ad w h n s := hm_seg_set (k := 0) (Nat.le_of_ble_eq_true rfl) rfl rfl
theorem wC_2 (x : Int32) : hm_set (hm_hC k ad w h n s) 7 (.inr (0, ([.ref 8, .int (k 2 0), .ref 9, .ref 10, .ref 11, .int (k 36 0), .ref 12] : List Value).set 1 (.int x))) = hm_hC (hm_uM k 2 (fun _ => x)) ad w h n s := hm_seg_set (k := 3) (Nat.le_of_ble_eq_true rfl) rfl rfl
theorem wC_36 (x : Int32) : hm_set (hm_hC k ad w h n s) 7 (.inr (0, ([.ref 8, .int (k 2 0), .ref 9, .ref 10, .ref 11, .int (k 36 0), .ref 12] : List Value).set 5 (.int x))) = hm_hC (hm_uM k 36 (fun _ => x)) ad w h n s := hm_seg_set (k := 3) (Nat.le_of_ble_eq_true rfl) rfl rfl
theorem wC_7 (x : Int32) : hm_set (hm_hC k ad w h n s) 25 (.inr (6, ([.ref 26, .int (k 7 0)] : List Value).set 1 (.int x))) = hm_hC (hm_uM k 7 (fun _ => x)) ad w h n s := hm_seg_set (k := 21) (Nat.le_of_ble_eq_true rfl) rfl rfl
theorem wC_8 (x : Int32) : hm_set (hm_hC k ad w h n s) 27 (.inr (3, ([.int (k 8 0), .int (k 46 0), .int (k 47 0), .int (k 48 0), .int (k 49 0), .int (k 50 0), .int (k 51 0)] : List Value).set 0 (.int x))) = hm_hC (hm_uM k 8 (fun _ => x)) ad w h n s := hm_seg_set (k := 23) (Nat.le_of_ble_eq_true rfl) rfl rfl
theorem wC_46 (x : Int32) : hm_set (hm_hC k ad w h n s) 27 (.inr (3, ([.int (k 8 0), .int (k 46 0), .int (k 47 0), .int (k 48 0), .int (k 49 0), .int (k 50 0), .int (k 51 0)] : List Value).set 1 (.int x))) = hm_hC (hm_uM k 46 (fun _ => x)) ad w h n s := hm_seg_set (k := 23) (Nat.le_of_ble_eq_true rfl) rfl rfl
theorem wC_47 (x : Int32) : hm_set (hm_hC k ad w h n s) 27 (.inr (3, ([.int (k 8 0), .int (k 46 0), .int (k 47 0), .int (k 48 0), .int (k 49 0), .int (k 50 0), .int (k 51 0)] : List Value).set 2 (.int x))) = hm_hC (hm_uM k 47 (fun _ => x)) ad w h n s := hm_seg_set (k := 23) (Nat.le_of_ble_eq_true rfl) rfl rfl
theorem wC_48 (x : Int32) : hm_set (hm_hC k ad w h n s) 27 (.inr (3, ([.int (k 8 0), .int (k 46 0), .int (k 47 0), .int (k 48 0), .int (k 49 0), .int (k 50 0), .int (k 51 0)] : List Value).set 3 (.int x))) = hm_hC (hm_uM k 48 (fun _ => x)) ad w h n s := hm_seg_set (k := 23) (Nat.le_of_ble_eq_true rfl) rfl rfl
theorem wC_49 (x : Int32) : hm_set (hm_hC k ad w h n s) 27 (.inr (3, ([.int (k 8 0), .int (k 46 0), .int (k 47 0), .int (k 48 0), .int (k 49 0), .int (k 50 0), .int (k 51 0)] : List Value).set 4 (.int x))) = hm_hC (hm_uM k 49 (fun _ => x)) ad w h n s := hm_seg_set (k := 23) (Nat.le_of_ble_eq_true rfl) rfl rfl
theorem wC_50 (x : Int32) : hm_set (hm_hC k ad w h n s) 27 (.inr (3, ([.int (k 8 0), .int (k 46 0), .int (k 47 0), .int (k 48 0), .int (k 49 0), .int (k 50 0), .int (k 51 0)] : List Value).set 5 (.int x))) = hm_hC (hm_uM k 50 (fun _ => x)) ad w h n s := hm_seg_set (k := 23) (Nat.le_of_ble_eq_true rfl) rfl rfl
theorem wC_51 (x : Int32) : hm_set (hm_hC k ad w h n s) 27 (.inr (3, ([.int (k 8 0), .int (k 46 0), .int (k 47 0), .int (k 48 0), .int (k 49 0), .int (k 50 0), .int (k 51 0)] : List Value).set 6 (.int x))) = hm_hC (hm_uM k 51 (fun _ => x)) ad w h n s := hm_seg_set (k := 23) (Nat.le_of_ble_eq_true rfl) rfl rfl
theorem wC_w (i : Nat) (hi : i < 4) (f : Nat → Int64) : hm_set (hm_hC k ad w h n s) (13 + i) (.inl (1, 64, .inr (.inl f))) = hm_hC k ad (fun j => if j = i then f else w j) h n s := by
  have h4 : i = 0 ∨ i = 1 ∨ i = 2 ∨ i = 3 := by omega
  rcases h4 with rfl | rfl | rfl | rfl
  · exact hm_seg_set (k := 9) (Nat.le_of_ble_eq_true rfl) rfl rfl
  · exact hm_seg_set (k := 10) (Nat.le_of_ble_eq_true rfl) rfl rfl
  · exact hm_seg_set (k := 11) (Nat.le_of_ble_eq_true rfl) rfl rfl
  · exact hm_seg_set (k := 12) (Nat.le_of_ble_eq_true rfl) rfl rfl
theorem wC_law {q t : Nat} (hq : q < 5) (ht : t < 4) (f : Nat → Int32) : hm_set (hm_hC k ad w h n s) (hm_lb q + 2 + t) (.inl (0, 5, .inl f)) = hm_hC (hm_uM k (60 + 4 * q + t) f) ad w h n s := by
  have h5 : q = 0 ∨ q = 1 ∨ q = 2 ∨ q = 3 ∨ q = 4 := by omega
  have h4 : t = 0 ∨ t = 1 ∨ t = 2 ∨ t = 3 := by omega
  rcases h5 with rfl | rfl | rfl | rfl | rfl <;> rcases h4 with rfl | rfl | rfl | rfl
  · exact hm_seg_set (k := 27) (Nat.le_of_ble_eq_true rfl) rfl rfl
  · exact hm_seg_set (k := 28) (Nat.le_of_ble_eq_true rfl) rfl rfl
  · exact hm_seg_set (k := 29) (Nat.le_of_ble_eq_true rfl) rfl rfl
  · exact hm_seg_set (k := 30) (Nat.le_of_ble_eq_true rfl) rfl rfl
  · exact hm_seg_set (k := 35) (Nat.le_of_ble_eq_true rfl) rfl rfl
  · exact hm_seg_set (k := 36) (Nat.le_of_ble_eq_true rfl) rfl rfl
  · exact hm_seg_set (k := 37) (Nat.le_of_ble_eq_true rfl) rfl rfl
  · exact hm_seg_set (k := 38) (Nat.le_of_ble_eq_true rfl) rfl rfl
  · exact hm_seg_set (k := 41) (Nat.le_of_ble_eq_true rfl) rfl rfl
  · exact hm_seg_set (k := 42) (Nat.le_of_ble_eq_true rfl) rfl rfl
  · exact hm_seg_set (k := 43) (Nat.le_of_ble_eq_true rfl) rfl rfl
  · exact hm_seg_set (k := 44) (Nat.le_of_ble_eq_true rfl) rfl rfl
  · exact hm_seg_set (k := 47) (Nat.le_of_ble_eq_true rfl) rfl rfl
  · exact hm_seg_set (k := 48) (Nat.le_of_ble_eq_true rfl) rfl rfl
  · exact hm_seg_set (k := 49) (Nat.le_of_ble_eq_true rfl) rfl rfl
  · exact hm_seg_set (k := 50) (Nat.le_of_ble_eq_true rfl) rfl rfl
  · exact hm_seg_set (k := 53) (Nat.le_of_ble_eq_true rfl) rfl rfl
  · exact hm_seg_set (k := 54) (Nat.le_of_ble_eq_true rfl) rfl rfl
  · exact hm_seg_set (k := 55) (Nat.le_of_ble_eq_true rfl) rfl rfl
  · exact hm_seg_set (k := 56) (Nat.le_of_ble_eq_true rfl) rfl rfl
theorem rC_l0 {q : Nat} (hq : q < 5) : (hm_hC k ad w h n s).1 (hm_lb q) = some (.inr (2, [.ref (hm_lb q + 1)])) := by
  have h5 : q = 0 ∨ q = 1 ∨ q = 2 ∨ q = 3 ∨ q = 4 := by omega
  rcases h5 with rfl | rfl | rfl | rfl | rfl <;> rfl
theorem rC_l1 {q : Nat} (hq : q < 5) : (hm_hC k ad w h n s).1 (hm_lb q + 1) = some (.inl (3, 4, .inr (.inr (.inr (.inr (fun i => if i < 4 then some (hm_lb q + 2 + i) else none)))))) := by
  have h5 : q = 0 ∨ q = 1 ∨ q = 2 ∨ q = 3 ∨ q = 4 := by omega
  rcases h5 with rfl | rfl | rfl | rfl | rfl <;> rfl
theorem rC_l2 {q t : Nat} (hq : q < 5) (ht : t < 4) : (hm_hC k ad w h n s).1 (hm_lb q + 2 + t) = some (.inl (0, 5, .inl (k (60 + 4 * q + t)))) := by
  have h5 : q = 0 ∨ q = 1 ∨ q = 2 ∨ q = 3 ∨ q = 4 := by omega
  have h4 : t = 0 ∨ t = 1 ∨ t = 2 ∨ t = 3 := by omega
  rcases h5 with rfl | rfl | rfl | rfl | rfl <;> rcases h4 with rfl | rfl | rfl | rfl <;> rfl
theorem rC_row {r : Nat} (hr : r < 6) : (hm_hC k ad w h n s).1 (19 + r) = some (.inl (0, 400, .inl (k (40 + r)))) := by
  have h4 : r = 0 ∨ r = 1 ∨ r = 2 ∨ r = 3 ∨ r = 4 ∨ r = 5 := by omega
  rcases h4 with rfl | rfl | rfl | rfl | rfl | rfl <;> rfl
theorem rC_hop {r : Nat} (hr : r < 4) : (hm_hC k ad w h n s).1 (13 + r) = some (.inl (1, 64, .inr (.inl (w r)))) := by
  have h4 : r = 0 ∨ r = 1 ∨ r = 2 ∨ r = 3 := by omega
  rcases h4 with rfl | rfl | rfl | rfl <;> rfl
end WC
def hm_cf (k : hm_M) (ad : hm_AD) (c : Nat) : List Value := [.int (k 10 c), .int (k 11 c), .int (k 12 c), .int (k 13 c), .ref (ad 1 c + 1), .ref (ad 1 c + 2), .int (k 34 c), .int (k 16 c)]
def hm_pf (k : hm_M) (q : Nat) : List Value := [.int (k 19 q), .int (k 20 q), .int (k 21 q), .int (k 33 q), .int (k 22 q)]
def hm_la (L A : Nat → Nat) : Nat → Option Nat := fun j => if j < L 2 then some (A j) else none
/-- what lies in a later cell, by what it is -/
def hm_dc (k : hm_M) (ad : hm_AD) (x : Nat × Nat) : va_E := if x.1 = 1 then .inr (1, hm_cf k ad x.2) else if x.1 = 2 then .inl (0, 6, .inl (k (101 + 2 * x.2))) else if x.1 = 3 then .inl (0, 4, .inl (k (100 + 2 * x.2))) else if x.1 = 4 then .inr (5, hm_pf k x.2) else if x.2 = 0 then .inl (6, ad 3 1, .inr (.inr (.inr (.inr (hm_la (ad 3) (ad 1)))))) else .inl (6, ad 4 1, .inr (.inr (.inr (.inr (hm_la (ad 4) (ad 2))))))
def hm_D (k : hm_M) (ad : hm_AD) (g : Nat → Nat × Nat) (nc np n : Nat) (h : Nat → Option va_E) : Prop := (∀ j, (g j).1 ≠ 0 → h j = some (hm_dc k ad (g j))) ∧ (∀ i j, (g i).1 ≠ 0 → g i = g j → i = j) ∧ (∀ c, c < nc → g (ad 1 c) = (1, c) ∧ g (ad 1 c + 1) = (2, c) ∧ g (ad 1 c + 2) = (3, c)) ∧ (∀ q, q < np → g (ad 2 q) = (4, q)) ∧ (∀ j, (g j).1 ≠ 0 → 84 ≤ j ∧ j < n + 4) ∧ (k 9 0 = nI nc) ∧ (nc ≤ 16) ∧ (k 18 0 = nI np) ∧ (np ≤ 16) ∧ ((nc = 0 ∧ ad 3 0 = 3 ∧ ad 3 1 = 0 ∧ ad 3 2 = 0) ∨ (g (ad 3 0) = (5, 0) ∧ nc ≤ ad 3 1 ∧ ad 3 1 ≤ 100 ∧ ad 3 2 = nc ∧ 0 < ad 3 1)) ∧ ((np = 0 ∧ ad 4 0 = 3 ∧ ad 4 1 = 0 ∧ ad 4 2 = 0) ∨ (g (ad 4 0) = (5, 1) ∧ np ≤ ad 4 1 ∧ ad 4 1 ≤ 100 ∧ ad 4 2 = np ∧ 0 < ad 4 1)) ∧ (∀ i, i < 5 → ad 0 i < 5) ∧ (∀ i j, i < 5 → j < 5 → ad 0 i = ad 0 j → i = j) ∧ (h 1 = some (.inl (100, 3, .inl (fun j => match j with | 0 => 4 | 1 => 3 | _ => 8)))) ∧ (h 2 = some (.inl (100, 3, .inl (fun j => match j with | 0 => 0 | 1 => 2 | _ => 3)))) ∧ (h 3 = some (.inl (101, 0, .inr (.inr (.inr (.inr (fun _ => none))))))) ∧ (∀ c, c < nc → ∃ f, k 10 c = nI f ∧ f < 4)
theorem hm_D.at {k : hm_M} {ad : hm_AD} {g : Nat → Nat × Nat} {nc np n : Nat} {h : Nat → Option va_E} (X : hm_D k ad g nc np n h) : ∀ j, (g j).1 ≠ 0 → h j = some (hm_dc k ad (g j)) := X.1
theorem hm_D.inj {k : hm_M} {ad : hm_AD} {g : Nat → Nat × Nat} {nc np n : Nat} {h : Nat → Option va_E} (X : hm_D k ad g nc np n h) : ∀ i j, (g i).1 ≠ 0 → g i = g j → i = j := X.2.1
theorem hm_D.cs {k : hm_M} {ad : hm_AD} {g : Nat → Nat × Nat} {nc np n : Nat} {h : Nat → Option va_E} (X : hm_D k ad g nc np n h) : ∀ c, c < nc → g (ad 1 c) = (1, c) ∧ g (ad 1 c + 1) = (2, c) ∧ g (ad 1 c + 2) = (3, c) := X.2.2.1
theorem hm_D.pl {k : hm_M} {ad : hm_AD} {g : Nat → Nat × Nat} {nc np n : Nat} {h : Nat → Option va_E} (X : hm_D k ad g nc np n h) : ∀ q, q < np → g (ad 2 q) = (4, q) := X.2.2.2.1
theorem hm_D.rg {k : hm_M} {ad : hm_AD} {g : Nat → Nat × Nat} {nc np n : Nat} {h : Nat → Option va_E} (X : hm_D k ad g nc np n h) : ∀ j, (g j).1 ≠ 0 → 84 ≤ j ∧ j < n + 4 := X.2.2.2.2.1
theorem hm_D.nc {k : hm_M} {ad : hm_AD} {g : Nat → Nat × Nat} {nc np n : Nat} {h : Nat → Option va_E} (X : hm_D k ad g nc np n h) : k 9 0 = nI nc := X.2.2.2.2.2.1
theorem hm_D.nc16 {k : hm_M} {ad : hm_AD} {g : Nat → Nat × Nat} {nc np n : Nat} {h : Nat → Option va_E} (X : hm_D k ad g nc np n h) : nc ≤ 16 := X.2.2.2.2.2.2.1
theorem hm_D.np {k : hm_M} {ad : hm_AD} {g : Nat → Nat × Nat} {nc np n : Nat} {h : Nat → Option va_E} (X : hm_D k ad g nc np n h) : k 18 0 = nI np := X.2.2.2.2.2.2.2.1
theorem hm_D.np16 {k : hm_M} {ad : hm_AD} {g : Nat → Nat × Nat} {nc np n : Nat} {h : Nat → Option va_E} (X : hm_D k ad g nc np n h) : np ≤ 16 := X.2.2.2.2.2.2.2.2.1
theorem hm_D.l1 {k : hm_M} {ad : hm_AD} {g : Nat → Nat × Nat} {nc np n : Nat} {h : Nat → Option va_E} (X : hm_D k ad g nc np n h) : (nc = 0 ∧ ad 3 0 = 3 ∧ ad 3 1 = 0 ∧ ad 3 2 = 0) ∨ (g (ad 3 0) = (5, 0) ∧ nc ≤ ad 3 1 ∧ ad 3 1 ≤ 100 ∧ ad 3 2 = nc ∧ 0 < ad 3 1) := X.2.2.2.2.2.2.2.2.2.1
theorem hm_D.l2 {k : hm_M} {ad : hm_AD} {g : Nat → Nat × Nat} {nc np n : Nat} {h : Nat → Option va_E} (X : hm_D k ad g nc np n h) : (np = 0 ∧ ad 4 0 = 3 ∧ ad 4 1 = 0 ∧ ad 4 2 = 0) ∨ (g (ad 4 0) = (5, 1) ∧ np ≤ ad 4 1 ∧ ad 4 1 ≤ 100 ∧ ad 4 2 = np ∧ 0 < ad 4 1) := X.2.2.2.2.2.2.2.2.2.2.1
theorem hm_D.p {k : hm_M} {ad : hm_AD} {g : Nat → Nat × Nat} {nc np n : Nat} {h : Nat → Option va_E} (X : hm_D k ad g nc np n h) : ∀ i, i < 5 → ad 0 i < 5 := X.2.2.2.2.2.2.2.2.2.2.2.1
theorem hm_D.pi {k : hm_M} {ad : hm_AD} {g : Nat → Nat × Nat} {nc np n : Nat} {h : Nat → Option va_E} (X : hm_D k ad g nc np n h) : ∀ i j, i < 5 → j < 5 → ad 0 i = ad 0 j → i = j := X.2.2.2.2.2.2.2.2.2.2.2.2.1
theorem hm_D.h1 {k : hm_M} {ad : hm_AD} {g : Nat → Nat × Nat} {nc np n : Nat} {h : Nat → Option va_E} (X : hm_D k ad g nc np n h) : h 1 = some (.inl (100, 3, .inl (fun j => match j with | 0 => 4 | 1 => 3 | _ => 8))) := X.2.2.2.2.2.2.2.2.2.2.2.2.2.1
theorem hm_D.h2 {k : hm_M} {ad : hm_AD} {g : Nat → Nat × Nat} {nc np n : Nat} {h : Nat → Option va_E} (X : hm_D k ad g nc np n h) : h 2 = some (.inl (100, 3, .inl (fun j => match j with | 0 => 0 | 1 => 2 | _ => 3))) := X.2.2.2.2.2.2.2.2.2.2.2.2.2.2.1
theorem hm_D.h3 {k : hm_M} {ad : hm_AD} {g : Nat → Nat × Nat} {nc np n : Nat} {h : Nat → Option va_E} (X : hm_D k ad g nc np n h) : h 3 = some (.inl (101, 0, .inr (.inr (.inr (.inr (fun _ => none)))))) := X.2.2.2.2.2.2.2.2.2.2.2.2.2.2.2.1
theorem hm_D.fa {k : hm_M} {ad : hm_AD} {g : Nat → Nat × Nat} {nc np n : Nat} {h : Nat → Option va_E} (X : hm_D k ad g nc np n h) : ∀ c, c < nc → ∃ f, k 10 c = nI f ∧ f < 4 := X.2.2.2.2.2.2.2.2.2.2.2.2.2.2.2.2
theorem hm_rd {k : hm_M} {ad : hm_AD} {g : Nat → Nat × Nat} {nc np n : Nat} {h : Nat → Option va_E} (X : hm_D k ad g nc np n h) {w : hm_W} {s x : Nat} {y : Nat × Nat} (hx : g x = y) (hy : y.1 ≠ 0) : (hm_hC k ad w h n s).1 x = some (hm_dc k ad y) := by
  subst hx
  have e := X.rg x hy
  show hm_seg 4 (hm_cC k ad w) h x = _
  rw [hm_seg_out (Or.inr (show 4 + 57 ≤ x by omega))]
  exact X.at x hy
theorem rD_1 {k : hm_M} {ad : hm_AD} {g : Nat → Nat × Nat} {nc np n : Nat} {h : Nat → Option va_E} (X : hm_D k ad g nc np n h) {w : hm_W} {s c : Nat} (hc : c < nc) : (hm_hC k ad w h n s).1 (ad 1 c) = some (.inr (1, hm_cf k ad c)) := hm_rd X (X.cs c hc).1 (fun z => Nat.noConfusion z)
theorem rD_2 {k : hm_M} {ad : hm_AD} {g : Nat → Nat × Nat} {nc np n : Nat} {h : Nat → Option va_E} (X : hm_D k ad g nc np n h) {w : hm_W} {s c : Nat} (hc : c < nc) : (hm_hC k ad w h n s).1 (ad 1 c + 1) = some (.inl (0, 6, .inl (k (101 + 2 * c)))) := hm_rd X (X.cs c hc).2.1 (fun z => Nat.noConfusion z)
theorem rD_3 {k : hm_M} {ad : hm_AD} {g : Nat → Nat × Nat} {nc np n : Nat} {h : Nat → Option va_E} (X : hm_D k ad g nc np n h) {w : hm_W} {s c : Nat} (hc : c < nc) : (hm_hC k ad w h n s).1 (ad 1 c + 2) = some (.inl (0, 4, .inl (k (100 + 2 * c)))) := hm_rd X (X.cs c hc).2.2 (fun z => Nat.noConfusion z)
theorem rD_4 {k : hm_M} {ad : hm_AD} {g : Nat → Nat × Nat} {nc np n : Nat} {h : Nat → Option va_E} (X : hm_D k ad g nc np n h) {w : hm_W} {s q : Nat} (hq : q < np) : (hm_hC k ad w h n s).1 (ad 2 q) = some (.inr (5, hm_pf k q)) := hm_rd X (X.pl q hq) (fun z => Nat.noConfusion z)
theorem rD_l1 {k : hm_M} {ad : hm_AD} {g : Nat → Nat × Nat} {nc np n : Nat} {h : Nat → Option va_E} (X : hm_D k ad g nc np n h) {w : hm_W} {s : Nat} (hc : 0 < nc) : (hm_hC k ad w h n s).1 (ad 3 0) = some (.inl (6, ad 3 1, .inr (.inr (.inr (.inr (hm_la (ad 3) (ad 1))))))) := by
  rcases X.l1 with h1 | h1
  · omega
  · exact hm_rd X h1.1 (by decide)
theorem rD_l2 {k : hm_M} {ad : hm_AD} {g : Nat → Nat × Nat} {nc np n : Nat} {h : Nat → Option va_E} (X : hm_D k ad g nc np n h) {w : hm_W} {s : Nat} (hc : 0 < np) : (hm_hC k ad w h n s).1 (ad 4 0) = some (.inl (6, ad 4 1, .inr (.inr (.inr (.inr (hm_la (ad 4) (ad 2))))))) := by
  rcases X.l2 with h1 | h1
  · omega
  · exact hm_rd X h1.1 (by decide)
theorem hm_if01 {P : Prop} [Decidable P] : (if P then (1 : Int32) else 0) = 0 ∨ (if P then (1 : Int32) else 0) = 1 := by
  by_cases h : P
  · rw [if_pos h]; exact Or.inr rfl
  · rw [if_neg h]; exact Or.inl rfl
set_option maxRecDepth 20000 in
theorem s_13 {d : Nat} {hp : hm_H} {Q : Option Value → hm_H → Prop} {x a b : Int32} (hQ : Q (some (.int (if a.toInt ≤ x.toInt ∧ x.toInt ≤ b.toInt then 1 else 0))) hp) : hm_T d 13 0 [.int x, .int a, .int b] [] hp Q := by
  refine r_iload_n k_13_0 rfl ?_
  refine r_iload_n k_13_1 rfl ?_
  refine r_icmp_lt k_13_2 rfl (fun c_2 => ?_) (fun c_2 => ?_)
  · refine r_iconst k_13_14 ci_0 ?_
    exact hm_T.ret m_13 k_13_15 rfl (by rw [if_neg (fun z => by have := Int32.lt_iff_toInt_lt.mp c_2; omega)] at hQ; exact hQ)
  · refine r_iload_n k_13_5 rfl ?_
    refine r_iload_n k_13_6 rfl ?_
    refine r_icmp_gt k_13_7 rfl (fun c_7 => ?_) (fun c_7 => ?_)
    · refine r_iconst k_13_14 ci_0 ?_
      exact hm_T.ret m_13 k_13_15 rfl (by rw [if_neg (fun z => by have := Int32.lt_iff_toInt_lt.mp c_7; omega)] at hQ; exact hQ)
    · refine r_iconst k_13_10 ci_1 ?_
      refine r_goto k_13_11 rfl ?_
      exact hm_T.ret m_13 k_13_15 rfl (by rw [if_pos ⟨Int32.le_iff_toInt_le.mp (Int32.not_lt.mp c_2), Int32.le_iff_toInt_le.mp (Int32.not_lt.mp c_7)⟩] at hQ; exact hQ)
set_option maxRecDepth 20000 in
theorem s_62 {d : Nat} {hp : hm_H} {Q : Option Value → hm_H → Prop} {x : Int32} (hQ : Q (some (.int (if 0 ≤ x.toInt ∧ x.toInt ≤ 3 then 1 else 0))) hp) : hm_T (d + 1) 62 0 [.int x] [] hp Q := by
  refine r_iload_n k_62_0 rfl ?_
  refine r_iconst k_62_1 ci_0 ?_
  refine r_iconst k_62_2 ci_3 ?_
  refine r_calls3 m_62 k_62_3 cl_7_78 m_13 (by decide) rfl rfl (Nat.le_of_ble_eq_true rfl) (Nat.le_of_ble_eq_true rfl) ?_
  refine s_13 ?_
  rw [show (nI 0).toInt = 0 by decide +kernel, show (nI 3).toInt = 3 by decide +kernel]
  exact r_retz m_62 k_62_6 rfl hm_if01 hQ
set_option maxRecDepth 20000 in
theorem s_64 {d : Nat} {hp : hm_H} {Q : Option Value → hm_H → Prop} {x : Int32} (hQ : Q (some (.int (if 0 ≤ x.toInt ∧ x.toInt ≤ 399 then 1 else 0))) hp) : hm_T (d + 1) 64 0 [.int x] [] hp Q := by
  refine r_iload_n k_64_0 rfl ?_
  refine r_iconst k_64_1 ci_0 ?_
  refine r_sipush k_64_2 cs_399 ?_
  refine r_calls3 m_64 k_64_5 cl_7_78 m_13 (by decide) rfl rfl (Nat.le_of_ble_eq_true rfl) (Nat.le_of_ble_eq_true rfl) ?_
  refine s_13 ?_
  rw [show (nI 0).toInt = 0 by decide +kernel, show (nI 399).toInt = 399 by decide +kernel]
  exact r_retz m_64 k_64_8 rfl hm_if01 hQ
set_option maxRecDepth 20000 in
theorem s_21 {d : Nat} {hp : hm_H} {Q : Option Value → hm_H → Prop} {x y : Int32} (hQ : Q (some (.int (hm_bi (hm_has x y)))) hp) : hm_T d 21 0 [.int x, .int y] [] hp Q := by
  refine r_iload_n k_21_0 rfl ?_
  refine r_iload_n k_21_1 rfl ?_
  refine r_ishr k_21_2 ?_
  refine r_iconst k_21_3 ci_1 ?_
  refine r_iand k_21_4 ?_
  refine r_iconst k_21_5 ci_1 ?_
  refine r_icmp_ne k_21_6 rfl (fun c_6 => ?_) (fun c_6 => ?_)
  · refine r_iconst k_21_13 ci_0 ?_
    exact hm_T.ret m_21 k_21_14 rfl (by rw [show hm_has x y = false from decide_eq_false c_6] at hQ; exact hQ)
  · have c_6 := Decidable.of_not_not c_6
    refine r_iconst k_21_9 ci_1 ?_
    refine r_goto k_21_10 rfl ?_
    exact hm_T.ret m_21 k_21_14 rfl (by rw [show hm_has x y = true from decide_eq_true c_6] at hQ; exact hQ)
def hm_tkb (t : Int32) : Bool := decide (t = nI 1 ∨ t = nI 3)
set_option maxRecDepth 20000 in
theorem s_59 {d : Nat} {hp : hm_H} {Q : Option Value → hm_H → Prop} {t : Int32} (hQ : Q (some (.int (hm_bi (hm_tkb t)))) hp) : hm_T d 59 0 [.int t] [] hp Q := by
  refine r_iload_n k_59_0 rfl ?_
  refine r_iconst k_59_1 ci_1 ?_
  refine r_icmp_eq k_59_2 rfl (fun c_2 => ?_) (fun c_2 => ?_)
  · refine r_iconst k_59_10 ci_1 ?_
    refine r_goto k_59_11 rfl ?_
    exact hm_T.ret m_59 k_59_15 rfl (by rw [show hm_tkb t = true from decide_eq_true (Or.inl c_2)] at hQ; exact hQ)
  · refine r_iload_n k_59_5 rfl ?_
    refine r_iconst k_59_6 ci_3 ?_
    refine r_icmp_ne k_59_7 rfl (fun c_7 => ?_) (fun c_7 => ?_)
    · refine r_iconst k_59_14 ci_0 ?_
      exact hm_T.ret m_59 k_59_15 rfl (by rw [show hm_tkb t = false from decide_eq_false (fun z => z.elim c_2 c_7)] at hQ; exact hQ)
    · have c_7 := Decidable.of_not_not c_7
      refine r_iconst k_59_10 ci_1 ?_
      refine r_goto k_59_11 rfl ?_
      exact hm_T.ret m_59 k_59_15 rfl (by rw [show hm_tkb t = true from decide_eq_true (Or.inr c_7)] at hQ; exact hQ)
set_option maxRecDepth 20000 in
theorem s_15 {d : Nat} {hp : hm_H} {Q : Option Value → hm_H → Prop} {x y : Int32} (hQ : Q (some (.int (if x < y then y else x))) hp) : hm_T d 15 0 [.int x, .int y] [] hp Q := by
  refine r_iload_n k_15_0 rfl ?_
  refine r_iload_n k_15_1 rfl ?_
  refine r_icmp_lt k_15_2 rfl (fun c_2 => ?_) (fun c_2 => ?_)
  · refine r_iload_n k_15_9 rfl ?_
    exact hm_T.ret m_15 k_15_10 rfl (by rw [if_pos c_2] at hQ; exact hQ)
  · refine r_iload_n k_15_5 rfl ?_
    refine r_goto k_15_6 rfl ?_
    exact hm_T.ret m_15 k_15_10 rfl (by rw [if_neg c_2] at hQ; exact hQ)
set_option maxRecDepth 20000 in
theorem s_57 {d : Nat} {hp : hm_H} {Q : Option Value → hm_H → Prop} {x y : Int32} (hQ : Q (some (.int (if y < x then y else x))) hp) : hm_T d 57 0 [.int x, .int y] [] hp Q := by
  refine r_iload_n k_57_0 rfl ?_
  refine r_iload_n k_57_1 rfl ?_
  refine r_icmp_gt k_57_2 rfl (fun c_2 => ?_) (fun c_2 => ?_)
  · refine r_iload_n k_57_9 rfl ?_
    exact hm_T.ret m_57 k_57_10 rfl (by rw [if_pos c_2] at hQ; exact hQ)
  · refine r_iload_n k_57_5 rfl ?_
    refine r_goto k_57_6 rfl ?_
    exact hm_T.ret m_57 k_57_10 rfl (by rw [if_neg c_2] at hQ; exact hQ)
set_option maxRecDepth 20000 in
theorem s_112 {d : Nat} {hp : hm_H} {Q : Option Value → hm_H → Prop} {x y : Int64} (hQ : Q (some (.long (if 0 < lg_cmp x y then y else x))) hp) : hm_T d 112 0 [.long x, .retAddr 0, .long y, .retAddr 0] [] hp Q := by
  refine r_lload_n k_112_0 rfl ?_
  refine r_lload_n k_112_1 rfl ?_
  refine r_lcmp k_112_2 ?_
  refine r_if_gt k_112_3 rfl (fun c_3 => ?_) (fun c_3 => ?_)
  · refine r_lload_n k_112_10 rfl ?_
    exact hm_T.ret m_112 k_112_11 rfl (by rw [if_pos c_3] at hQ; exact hQ)
  · refine r_lload_n k_112_6 rfl ?_
    refine r_goto k_112_7 rfl ?_
    exact hm_T.ret m_112 k_112_11 rfl (by rw [if_neg c_3] at hQ; exact hQ)
set_option maxRecDepth 20000 in
theorem s_93 {d : Nat} {hp : hm_H} {Q : Option Value → hm_H → Prop} {x : Int32} (hQ : Q (some (.int (if 0 ≤ x then x else -x))) hp) : hm_T d 93 0 [.int x] [] hp Q := by
  refine r_iload_n k_93_0 rfl ?_
  refine r_if_ge k_93_1 rfl (fun c_1 => ?_) (fun c_1 => ?_)
  · refine r_iload_n k_93_9 rfl ?_
    exact hm_T.ret m_93 k_93_10 rfl (by rw [if_pos c_1] at hQ; exact hQ)
  · refine r_iload_n k_93_4 rfl ?_
    refine r_ineg k_93_5 ?_
    refine r_goto k_93_6 rfl ?_
    exact hm_T.ret m_93 k_93_10 rfl (by rw [if_neg c_1] at hQ; exact hQ)
