/-! a segment of the heap, told by a list; the Model's cells: m k i is the i-th place of its field k -/
def hm_seg (a : Nat) (L : List va_E) (h : Nat → Option va_E) : Nat → Option va_E := fun j => if a ≤ j ∧ j < a + L.length then L[j - a]? else h j
theorem hm_seg_set {a k n s : Nat} {L : List va_E} {h : Nat → Option va_E} {e : va_E} (hk : k < L.length) {b : Nat} (hb : a + k = b) {L2 : List va_E} (hL : L.set k e = L2) : hm_set (hm_seg a L h, n, s) b e = (hm_seg a L2 h, n, s) := by
  subst hb
  subst hL
  refine Prod.ext (funext fun j => ?_) rfl
  show (if j = a + k then some e else if a ≤ j ∧ j < a + L.length then L[j - a]? else h j) = (if a ≤ j ∧ j < a + (L.set k e).length then (L.set k e)[j - a]? else h j)
  rw [List.length_set]
  by_cases hj : j = a + k
  · subst hj
    rw [if_pos rfl, if_pos ⟨Nat.le_add_right _ _, by omega⟩, Nat.add_sub_cancel_left, List.getElem?_set_self hk]
  · rw [if_neg hj]
    by_cases hc : a ≤ j ∧ j < a + L.length
    · rw [if_pos hc, if_pos hc, List.getElem?_set_ne (by omega)]
    · rw [if_neg hc, if_neg hc]
theorem hm_seg_out {a j : Nat} {L : List va_E} {h : Nat → Option va_E} (hj : j < a ∨ a + L.length ≤ j) : hm_seg a L h j = h j := if_neg (by omega)
/-- a cell beyond a segment is written -/
theorem hm_seg_far {a b n s : Nat} {L : List va_E} {h : Nat → Option va_E} {e : va_E} (hb : b < a ∨ a + L.length ≤ b) : hm_set (hm_seg a L h, n, s) b e = (hm_seg a L (hm_up h b e), n, s) := by
  refine Prod.ext (funext fun j => ?_) rfl
  show (if j = b then some e else if a ≤ j ∧ j < a + L.length then L[j - a]? else h j) = (if a ≤ j ∧ j < a + L.length then L[j - a]? else if j = b then some e else h j)
  by_cases hj : j = b
  · subst hj
    rw [if_pos rfl, if_neg (by omega), if_pos rfl]
  · rw [if_neg hj, if_neg hj]
abbrev hm_M : Type := Nat → Nat → Int32
def hm_uM (m : hm_M) (k : Nat) (f : Nat → Int32) : hm_M := fun j => if j = k then f else m j
def hm_mF (m : hm_M) : List Value := [.ref 62, .ref 63, .int (m 2 0), .ref 64, .ref 65, .ref 66, .ref 67, .int (m 7 0), .int (m 8 0), .int (m 9 0), .ref 68, .ref 69, .ref 70, .ref 71, .ref 72, .ref 73, .ref 74, .int (m 17 0), .int (m 18 0), .ref 75, .ref 76, .ref 77, .ref 78, .int (m 23 0), .int (m 24 0), .int (m 25 0), .ref 79, .ref 80, .ref 81, .ref 82, .ref 83]
def hm_cM (m : hm_M) : List va_E := [.inr (8, hm_mF m), .inl (0, 3, .inl (m 0)), .inl (0, 3, .inl (m 1)), .inl (0, 12, .inl (m 3)), .inl (0, 80, .inl (m 4)), .inl (0, 20, .inl (m 5)), .inl (0, 100, .inl (m 6)), .inl (0, 16, .inl (m 10)), .inl (0, 16, .inl (m 11)), .inl (0, 16, .inl (m 12)), .inl (0, 16, .inl (m 13)), .inl (0, 96, .inl (m 14)), .inl (0, 64, .inl (m 15)), .inl (2, 16, .inl (m 16)), .inl (0, 16, .inl (m 19)), .inl (0, 16, .inl (m 20)), .inl (0, 16, .inl (m 21)), .inl (0, 16, .inl (m 22)), .inl (0, 8, .inl (m 26)), .inl (0, 8, .inl (m 27)), .inl (0, 7392, .inl (m 28)), .inl (0, 8, .inl (m 29)), .inl (0, 6, .inl (m 30))]
abbrev hm_hM (m : hm_M) (h : Nat → Option va_E) (n s : Nat) : hm_H := (hm_seg 61 (hm_cM m) h, n, s)
section WM
variable {m : hm_M} {h : Nat → Option va_E} {n s : Nat}
theorem wM_0 (f : Nat → Int32) : hm_set (hm_hM m h n s) 62 (.inl (0, 3, .inl f)) = hm_hM (hm_uM m 0 f) h n s := hm_seg_set (k := 1) (Nat.le_of_ble_eq_true rfl) rfl rfl
theorem wM_1 (f : Nat → Int32) : hm_set (hm_hM m h n s) 63 (.inl (0, 3, .inl f)) = hm_hM (hm_uM m 1 f) h n s := hm_seg_set (k := 2) (Nat.le_of_ble_eq_true rfl) rfl rfl
theorem wM_3 (f : Nat → Int32) : hm_set (hm_hM m h n s) 64 (.inl (0, 12, .inl f)) = hm_hM (hm_uM m 3 f) h n s := hm_seg_set (k := 3) (Nat.le_of_ble_eq_true rfl) rfl rfl
theorem wM_4 (f : Nat → Int32) : hm_set (hm_hM m h n s) 65 (.inl (0, 80, .inl f)) = hm_hM (hm_uM m 4 f) h n s := hm_seg_set (k := 4) (Nat.le_of_ble_eq_true rfl) rfl rfl
theorem wM_5 (f : Nat → Int32) : hm_set (hm_hM m h n s) 66 (.inl (0, 20, .inl f)) = hm_hM (hm_uM m 5 f) h n s := hm_seg_set (k := 5) (Nat.le_of_ble_eq_true rfl) rfl rfl
theorem wM_6 (f : Nat → Int32) : hm_set (hm_hM m h n s) 67 (.inl (0, 100, .inl f)) = hm_hM (hm_uM m 6 f) h n s := hm_seg_set (k := 6) (Nat.le_of_ble_eq_true rfl) rfl rfl
theorem wM_10 (f : Nat → Int32) : hm_set (hm_hM m h n s) 68 (.inl (0, 16, .inl f)) = hm_hM (hm_uM m 10 f) h n s := hm_seg_set (k := 7) (Nat.le_of_ble_eq_true rfl) rfl rfl
theorem wM_11 (f : Nat → Int32) : hm_set (hm_hM m h n s) 69 (.inl (0, 16, .inl f)) = hm_hM (hm_uM m 11 f) h n s := hm_seg_set (k := 8) (Nat.le_of_ble_eq_true rfl) rfl rfl
theorem wM_12 (f : Nat → Int32) : hm_set (hm_hM m h n s) 70 (.inl (0, 16, .inl f)) = hm_hM (hm_uM m 12 f) h n s := hm_seg_set (k := 9) (Nat.le_of_ble_eq_true rfl) rfl rfl
theorem wM_13 (f : Nat → Int32) : hm_set (hm_hM m h n s) 71 (.inl (0, 16, .inl f)) = hm_hM (hm_uM m 13 f) h n s := hm_seg_set (k := 10) (Nat.le_of_ble_eq_true rfl) rfl rfl
theorem wM_14 (f : Nat → Int32) : hm_set (hm_hM m h n s) 72 (.inl (0, 96, .inl f)) = hm_hM (hm_uM m 14 f) h n s := hm_seg_set (k := 11) (Nat.le_of_ble_eq_true rfl) rfl rfl
theorem wM_15 (f : Nat → Int32) : hm_set (hm_hM m h n s) 73 (.inl (0, 64, .inl f)) = hm_hM (hm_uM m 15 f) h n s := hm_seg_set (k := 12) (Nat.le_of_ble_eq_true rfl) rfl rfl
theorem wM_16 (f : Nat → Int32) : hm_set (hm_hM m h n s) 74 (.inl (2, 16, .inl f)) = hm_hM (hm_uM m 16 f) h n s := hm_seg_set (k := 13) (Nat.le_of_ble_eq_true rfl) rfl rfl
theorem wM_19 (f : Nat → Int32) : hm_set (hm_hM m h n s) 75 (.inl (0, 16, .inl f)) = hm_hM (hm_uM m 19 f) h n s := hm_seg_set (k := 14) (Nat.le_of_ble_eq_true rfl) rfl rfl
theorem wM_20 (f : Nat → Int32) : hm_set (hm_hM m h n s) 76 (.inl (0, 16, .inl f)) = hm_hM (hm_uM m 20 f) h n s := hm_seg_set (k := 15) (Nat.le_of_ble_eq_true rfl) rfl rfl
theorem wM_21 (f : Nat → Int32) : hm_set (hm_hM m h n s) 77 (.inl (0, 16, .inl f)) = hm_hM (hm_uM m 21 f) h n s := hm_seg_set (k := 16) (Nat.le_of_ble_eq_true rfl) rfl rfl
theorem wM_22 (f : Nat → Int32) : hm_set (hm_hM m h n s) 78 (.inl (0, 16, .inl f)) = hm_hM (hm_uM m 22 f) h n s := hm_seg_set (k := 17) (Nat.le_of_ble_eq_true rfl) rfl rfl
theorem wM_26 (f : Nat → Int32) : hm_set (hm_hM m h n s) 79 (.inl (0, 8, .inl f)) = hm_hM (hm_uM m 26 f) h n s := hm_seg_set (k := 18) (Nat.le_of_ble_eq_true rfl) rfl rfl
theorem wM_27 (f : Nat → Int32) : hm_set (hm_hM m h n s) 80 (.inl (0, 8, .inl f)) = hm_hM (hm_uM m 27 f) h n s := hm_seg_set (k := 19) (Nat.le_of_ble_eq_true rfl) rfl rfl
theorem wM_28 (f : Nat → Int32) : hm_set (hm_hM m h n s) 81 (.inl (0, 7392, .inl f)) = hm_hM (hm_uM m 28 f) h n s := hm_seg_set (k := 20) (Nat.le_of_ble_eq_true rfl) rfl rfl
theorem wM_29 (f : Nat → Int32) : hm_set (hm_hM m h n s) 82 (.inl (0, 8, .inl f)) = hm_hM (hm_uM m 29 f) h n s := hm_seg_set (k := 21) (Nat.le_of_ble_eq_true rfl) rfl rfl
theorem wM_30 (f : Nat → Int32) : hm_set (hm_hM m h n s) 83 (.inl (0, 6, .inl f)) = hm_hM (hm_uM m 30 f) h n s := hm_seg_set (k := 22) (Nat.le_of_ble_eq_true rfl) rfl rfl
theorem wM_2 (x : Int32) : hm_set (hm_hM m h n s) 61 (.inr (8, (hm_mF m).set 2 (.int x))) = hm_hM (hm_uM m 2 (fun _ => x)) h n s := hm_seg_set (k := 0) (Nat.le_of_ble_eq_true rfl) rfl rfl
theorem wM_7 (x : Int32) : hm_set (hm_hM m h n s) 61 (.inr (8, (hm_mF m).set 7 (.int x))) = hm_hM (hm_uM m 7 (fun _ => x)) h n s := hm_seg_set (k := 0) (Nat.le_of_ble_eq_true rfl) rfl rfl
theorem wM_8 (x : Int32) : hm_set (hm_hM m h n s) 61 (.inr (8, (hm_mF m).set 8 (.int x))) = hm_hM (hm_uM m 8 (fun _ => x)) h n s := hm_seg_set (k := 0) (Nat.le_of_ble_eq_true rfl) rfl rfl
theorem wM_9 (x : Int32) : hm_set (hm_hM m h n s) 61 (.inr (8, (hm_mF m).set 9 (.int x))) = hm_hM (hm_uM m 9 (fun _ => x)) h n s := hm_seg_set (k := 0) (Nat.le_of_ble_eq_true rfl) rfl rfl
theorem wM_17 (x : Int32) : hm_set (hm_hM m h n s) 61 (.inr (8, (hm_mF m).set 17 (.int x))) = hm_hM (hm_uM m 17 (fun _ => x)) h n s := hm_seg_set (k := 0) (Nat.le_of_ble_eq_true rfl) rfl rfl
theorem wM_18 (x : Int32) : hm_set (hm_hM m h n s) 61 (.inr (8, (hm_mF m).set 18 (.int x))) = hm_hM (hm_uM m 18 (fun _ => x)) h n s := hm_seg_set (k := 0) (Nat.le_of_ble_eq_true rfl) rfl rfl
theorem wM_23 (x : Int32) : hm_set (hm_hM m h n s) 61 (.inr (8, (hm_mF m).set 23 (.int x))) = hm_hM (hm_uM m 23 (fun _ => x)) h n s := hm_seg_set (k := 0) (Nat.le_of_ble_eq_true rfl) rfl rfl
theorem wM_24 (x : Int32) : hm_set (hm_hM m h n s) 61 (.inr (8, (hm_mF m).set 24 (.int x))) = hm_hM (hm_uM m 24 (fun _ => x)) h n s := hm_seg_set (k := 0) (Nat.le_of_ble_eq_true rfl) rfl rfl
theorem wM_25 (x : Int32) : hm_set (hm_hM m h n s) 61 (.inr (8, (hm_mF m).set 25 (.int x))) = hm_hM (hm_uM m 25 (fun _ => x)) h n s := hm_seg_set (k := 0) (Nat.le_of_ble_eq_true rfl) rfl rfl
end WM
theorem fl_0_11 : hm_ftab.lookup (0, 11) = some (0, 0, 0, 36) := by decide +kernel
theorem fl_0_15 : hm_ftab.lookup (0, 15) = some (0, 1, 0, 37) := by decide +kernel
theorem fl_7_195 : hm_ftab.lookup (7, 195) = some (0, 1, 1, 38) := by decide +kernel
theorem fl_0_19 : hm_ftab.lookup (0, 19) = some (0, 2, 0, 39) := by decide +kernel
theorem fl_0_22 : hm_ftab.lookup (0, 22) = some (0, 3, 0, 40) := by decide +kernel
theorem fl_0_25 : hm_ftab.lookup (0, 25) = some (0, 4, 0, 41) := by decide +kernel
theorem fl_0_28 : hm_ftab.lookup (0, 28) = some (0, 5, 0, 42) := by decide +kernel
theorem fl_7_244 : hm_ftab.lookup (7, 244) = some (0, 5, 1, 43) := by decide +kernel
theorem fl_0_33 : hm_ftab.lookup (0, 33) = some (0, 6, 0, 44) := by decide +kernel
theorem fl_4_11 : hm_ftab.lookup (4, 11) = some (4, 0, 0, 70) := by decide +kernel
theorem fl_6_9 : hm_ftab.lookup (6, 9) = some (6, 0, 0, 80) := by decide +kernel
theorem fl_6_15 : hm_ftab.lookup (6, 15) = some (6, 1, 0, 81) := by decide +kernel
theorem fl_3_29 : hm_ftab.lookup (3, 29) = some (6, 1, 1, 82) := by decide +kernel
theorem fl_7_198 : hm_ftab.lookup (7, 198) = some (6, 1, 1, 83) := by decide +kernel
theorem fl_3_9 : hm_ftab.lookup (3, 9) = some (3, 0, 0, 95) := by decide +kernel
theorem fl_7_141 : hm_ftab.lookup (7, 141) = some (3, 0, 1, 96) := by decide +kernel
theorem fl_3_20 : hm_ftab.lookup (3, 20) = some (3, 1, 0, 97) := by decide +kernel
theorem fl_3_26 : hm_ftab.lookup (3, 26) = some (3, 2, 0, 98) := by decide +kernel
theorem fl_3_72 : hm_ftab.lookup (3, 72) = some (3, 3, 0, 99) := by decide +kernel
theorem fl_3_75 : hm_ftab.lookup (3, 75) = some (3, 4, 0, 100) := by decide +kernel
theorem fl_3_23 : hm_ftab.lookup (3, 23) = some (3, 5, 0, 101) := by decide +kernel
theorem fl_3_69 : hm_ftab.lookup (3, 69) = some (3, 6, 0, 102) := by decide +kernel
theorem fl_2_11 : hm_ftab.lookup (2, 11) = some (2, 0, 0, 133) := by decide +kernel
theorem fl_9_9 : hm_ftab.lookup (9, 9) = some (9, 1, 0, 151) := by decide +kernel
theorem fl_9_48 : hm_ftab.lookup (9, 48) = some (9, 2, 0, 152) := by decide +kernel
theorem fl_12_7 : hm_ftab.lookup (12, 7) = some (9, 0, 0, 153) := by decide +kernel
theorem fl_9_63 : hm_ftab.lookup (9, 63) = some (9, 0, 2, 154) := by decide +kernel
theorem fl_7_7 : hm_ftab.lookup (7, 7) = some (7, 0, 0, 163) := by decide +kernel
theorem fl_7_13 : hm_ftab.lookup (7, 13) = some (7, 1, 0, 164) := by decide +kernel
theorem fl_7_19 : hm_ftab.lookup (7, 19) = some (7, 2, 0, 165) := by decide +kernel
theorem fl_7_26 : hm_ftab.lookup (7, 26) = some (7, 3, 0, 166) := by decide +kernel
theorem fl_7_33 : hm_ftab.lookup (7, 33) = some (7, 4, 0, 167) := by decide +kernel
theorem fl_7_40 : hm_ftab.lookup (7, 40) = some (7, 5, 0, 168) := by decide +kernel
theorem fl_7_46 : hm_ftab.lookup (7, 46) = some (7, 6, 0, 169) := by decide +kernel
theorem fl_7_51 : hm_ftab.lookup (7, 51) = some (7, 7, 0, 170) := by decide +kernel
theorem fl_7_58 : hm_ftab.lookup (7, 58) = some (7, 8, 0, 171) := by decide +kernel
theorem fl_7_62 : hm_ftab.lookup (7, 62) = some (7, 9, 0, 172) := by decide +kernel
theorem fl_7_66 : hm_ftab.lookup (7, 66) = some (7, 10, 0, 173) := by decide +kernel
theorem fl_7_69 : hm_ftab.lookup (7, 69) = some (7, 11, 0, 174) := by decide +kernel
theorem fl_7_72 : hm_ftab.lookup (7, 72) = some (7, 12, 0, 175) := by decide +kernel
theorem fl_7_75 : hm_ftab.lookup (7, 75) = some (7, 13, 0, 176) := by decide +kernel
theorem fl_1_26 : hm_ftab.lookup (1, 26) = some (1, 0, 0, 422) := by decide +kernel
theorem fl_7_134 : hm_ftab.lookup (7, 134) = some (1, 0, 1, 423) := by decide +kernel
theorem fl_1_29 : hm_ftab.lookup (1, 29) = some (1, 1, 0, 424) := by decide +kernel
theorem fl_1_32 : hm_ftab.lookup (1, 32) = some (1, 2, 0, 425) := by decide +kernel
theorem fl_4_32 : hm_ftab.lookup (4, 32) = some (1, 2, 1, 426) := by decide +kernel
theorem fl_7_231 : hm_ftab.lookup (7, 231) = some (1, 2, 1, 427) := by decide +kernel
theorem fl_1_35 : hm_ftab.lookup (1, 35) = some (1, 3, 0, 428) := by decide +kernel
theorem fl_7_234 : hm_ftab.lookup (7, 234) = some (1, 3, 1, 429) := by decide +kernel
theorem fl_1_9 : hm_ftab.lookup (1, 9) = some (1, 4, 0, 430) := by decide +kernel
theorem fl_7_165 : hm_ftab.lookup (7, 165) = some (1, 4, 1, 431) := by decide +kernel
theorem fl_1_15 : hm_ftab.lookup (1, 15) = some (1, 5, 0, 432) := by decide +kernel
theorem fl_4_22 : hm_ftab.lookup (4, 22) = some (1, 5, 1, 433) := by decide +kernel
theorem fl_7_183 : hm_ftab.lookup (7, 183) = some (1, 5, 1, 434) := by decide +kernel
theorem fl_1_18 : hm_ftab.lookup (1, 18) = some (1, 6, 0, 435) := by decide +kernel
theorem fl_7_280 : hm_ftab.lookup (7, 280) = some (1, 6, 1, 436) := by decide +kernel
theorem fl_1_22 : hm_ftab.lookup (1, 22) = some (1, 7, 0, 437) := by decide +kernel
theorem fl_7_287 : hm_ftab.lookup (7, 287) = some (1, 7, 1, 438) := by decide +kernel
theorem fl_5_25 : hm_ftab.lookup (5, 25) = some (5, 0, 0, 649) := by decide +kernel
theorem fl_7_293 : hm_ftab.lookup (7, 293) = some (5, 0, 1, 650) := by decide +kernel
theorem fl_5_9 : hm_ftab.lookup (5, 9) = some (5, 1, 0, 651) := by decide +kernel
theorem fl_7_270 : hm_ftab.lookup (7, 270) = some (5, 1, 1, 652) := by decide +kernel
theorem fl_5_15 : hm_ftab.lookup (5, 15) = some (5, 2, 0, 653) := by decide +kernel
theorem fl_7_277 : hm_ftab.lookup (7, 277) = some (5, 2, 1, 654) := by decide +kernel
theorem fl_5_18 : hm_ftab.lookup (5, 18) = some (5, 3, 0, 655) := by decide +kernel
theorem fl_7_283 : hm_ftab.lookup (7, 283) = some (5, 3, 1, 656) := by decide +kernel
theorem fl_5_22 : hm_ftab.lookup (5, 22) = some (5, 4, 0, 657) := by decide +kernel
theorem fl_7_296 : hm_ftab.lookup (7, 296) = some (5, 4, 1, 658) := by decide +kernel
theorem fl_8_7 : hm_ftab.lookup (8, 7) = some (8, 0, 0, 719) := by decide +kernel
theorem fl_8_13 : hm_ftab.lookup (8, 13) = some (8, 1, 0, 720) := by decide +kernel
theorem fl_8_124 : hm_ftab.lookup (8, 124) = some (8, 2, 0, 721) := by decide +kernel
theorem fl_8_16 : hm_ftab.lookup (8, 16) = some (8, 3, 0, 722) := by decide +kernel
theorem fl_8_19 : hm_ftab.lookup (8, 19) = some (8, 4, 0, 723) := by decide +kernel
theorem fl_8_22 : hm_ftab.lookup (8, 22) = some (8, 5, 0, 724) := by decide +kernel
theorem fl_8_25 : hm_ftab.lookup (8, 25) = some (8, 6, 0, 725) := by decide +kernel
theorem fl_8_127 : hm_ftab.lookup (8, 127) = some (8, 7, 0, 726) := by decide +kernel
theorem fl_8_28 : hm_ftab.lookup (8, 28) = some (8, 8, 0, 727) := by decide +kernel
theorem fl_8_81 : hm_ftab.lookup (8, 81) = some (8, 9, 0, 728) := by decide +kernel
theorem fl_8_32 : hm_ftab.lookup (8, 32) = some (8, 10, 0, 729) := by decide +kernel
theorem fl_8_35 : hm_ftab.lookup (8, 35) = some (8, 11, 0, 730) := by decide +kernel
theorem fl_8_38 : hm_ftab.lookup (8, 38) = some (8, 12, 0, 731) := by decide +kernel
theorem fl_8_41 : hm_ftab.lookup (8, 41) = some (8, 13, 0, 732) := by decide +kernel
theorem fl_8_44 : hm_ftab.lookup (8, 44) = some (8, 14, 0, 733) := by decide +kernel
theorem fl_8_47 : hm_ftab.lookup (8, 47) = some (8, 15, 0, 734) := by decide +kernel
theorem fl_8_50 : hm_ftab.lookup (8, 50) = some (8, 16, 0, 735) := by decide +kernel
theorem fl_8_210 : hm_ftab.lookup (8, 210) = some (8, 17, 0, 736) := by decide +kernel
theorem fl_8_232 : hm_ftab.lookup (8, 232) = some (8, 18, 0, 737) := by decide +kernel
theorem fl_8_54 : hm_ftab.lookup (8, 54) = some (8, 19, 0, 738) := by decide +kernel
theorem fl_8_57 : hm_ftab.lookup (8, 57) = some (8, 20, 0, 739) := by decide +kernel
theorem fl_8_60 : hm_ftab.lookup (8, 60) = some (8, 21, 0, 740) := by decide +kernel
theorem fl_8_63 : hm_ftab.lookup (8, 63) = some (8, 22, 0, 741) := by decide +kernel
theorem fl_8_246 : hm_ftab.lookup (8, 246) = some (8, 23, 0, 742) := by decide +kernel
theorem fl_8_132 : hm_ftab.lookup (8, 132) = some (8, 24, 0, 743) := by decide +kernel
theorem fl_8_199 : hm_ftab.lookup (8, 199) = some (8, 25, 0, 744) := by decide +kernel
theorem fl_8_66 : hm_ftab.lookup (8, 66) = some (8, 26, 0, 745) := by decide +kernel
theorem fl_8_69 : hm_ftab.lookup (8, 69) = some (8, 27, 0, 746) := by decide +kernel
theorem fl_8_72 : hm_ftab.lookup (8, 72) = some (8, 28, 0, 747) := by decide +kernel
theorem fl_8_75 : hm_ftab.lookup (8, 75) = some (8, 29, 0, 748) := by decide +kernel
theorem fl_8_78 : hm_ftab.lookup (8, 78) = some (8, 30, 0, 749) := by decide +kernel
theorem nl_19_7 : hm_ntab.lookup (19, 7) = some (7, 20) := by decide +kernel
theorem nl_7_16 : hm_ntab.lookup (7, 16) = some (0, 28) := by decide +kernel
theorem nl_0_31 : hm_ntab.lookup (0, 31) = some (21, 34) := by decide +kernel
theorem nl_7_23 : hm_ntab.lookup (7, 23) = some (4, 62) := by decide +kernel
theorem nl_4_9 : hm_ntab.lookup (4, 9) = some (20, 68) := by decide +kernel
theorem nl_7_30 : hm_ntab.lookup (7, 30) = some (6, 74) := by decide +kernel
theorem nl_7_37 : hm_ntab.lookup (7, 37) = some (3, 89) := by decide +kernel
theorem nl_7_44 : hm_ntab.lookup (7, 44) = some (2, 118) := by decide +kernel
theorem nl_2_9 : hm_ntab.lookup (2, 9) = some (20, 125) := by decide +kernel
theorem nl_7_55 : hm_ntab.lookup (7, 55) = some (9, 137) := by decide +kernel
theorem nl_7_132 : hm_ntab.lookup (7, 132) = some (1, 340) := by decide +kernel
theorem nl_11_110 : hm_ntab.lookup (11, 110) = some (23, 500) := by decide +kernel
theorem nl_11_2 : hm_ntab.lookup (11, 2) = some (22, 502) := by decide +kernel
theorem nl_9_7 : hm_ntab.lookup (9, 7) = some (22, 508) := by decide +kernel
theorem nl_7_261 : hm_ntab.lookup (7, 261) = some (5, 638) := by decide +kernel
theorem nl_19_10 : hm_ntab.lookup (19, 10) = some (8, 713) := by decide +kernel
theorem ll_5_28 : hm_ltab.lookup (5, 28) = some (10000, 691) := by decide +kernel
theorem ll_5_30 : hm_ltab.lookup (5, 30) = some (100000000, 692) := by decide +kernel
theorem ll_8_103 : hm_ltab.lookup (8, 103) = some (2, 818) := by decide +kernel
theorem ll_8_105 : hm_ltab.lookup (8, 105) = some (4, 822) := by decide +kernel
theorem ll_8_90 : hm_ltab.lookup (8, 90) = some (3, 823) := by decide +kernel
theorem ll_8_107 : hm_ltab.lookup (8, 107) = some (8, 824) := by decide +kernel
theorem ll_8_115 : hm_ltab.lookup (8, 115) = some (1023, 849) := by decide +kernel
theorem ll_8_120 : hm_ltab.lookup (8, 120) = some (140, 858) := by decide +kernel
theorem ll_8_122 : hm_ltab.lookup (8, 122) = some (210, 859) := by decide +kernel
theorem ll_8_130 : hm_ltab.lookup (8, 130) = some (255, 864) := by decide +kernel
theorem ll_8_149 : hm_ltab.lookup (8, 149) = some (65, 888) := by decide +kernel
theorem ll_8_151 : hm_ltab.lookup (8, 151) = some (70, 889) := by decide +kernel
theorem ll_8_139 : hm_ltab.lookup (8, 139) = some (48, 894) := by decide +kernel
theorem ll_8_141 : hm_ltab.lookup (8, 141) = some (57, 895) := by decide +kernel
theorem ll_8_88 : hm_ltab.lookup (8, 88) = some (399, 938) := by decide +kernel
theorem ll_8_208 : hm_ltab.lookup (8, 208) = some (6, 939) := by decide +kernel
theorem ll_8_216 : hm_ltab.lookup (8, 216) = some (5, 948) := by decide +kernel
theorem ll_8_218 : hm_ltab.lookup (8, 218) = some (-1, 949) := by decide +kernel
theorem ll_8_238 : hm_ltab.lookup (8, 238) = some (1000000, 1019) := by decide +kernel
theorem ll_8_244 : hm_ltab.lookup (8, 244) = some (100, 1033) := by decide +kernel
theorem ll_8_249 : hm_ltab.lookup (8, 249) = some (400, 1038) := by decide +kernel
theorem ll_8_251 : hm_ltab.lookup (8, 251) = some (10000, 1039) := by decide +kernel
theorem ll_8_253 : hm_ltab.lookup (8, 253) = some (100000000, 1040) := by decide +kernel
theorem ll_19_27 : hm_ltab.lookup (19, 27) = some (4294967295, 1057) := by decide +kernel
theorem il_17_200 : hm_itab.lookup (17, 200) = some (2147483639, 476) := by decide +kernel
theorem il_18_265 : hm_itab.lookup (18, 265) = some (1431655765, 583) := by decide +kernel
theorem il_18_266 : hm_itab.lookup (18, 266) = some (858993459, 584) := by decide +kernel
theorem il_18_267 : hm_itab.lookup (18, 267) = some (252645135, 585) := by decide +kernel
theorem il_7_260 : hm_itab.lookup (7, 260) = some (1000000, 643) := by decide +kernel
theorem il_7_273 : hm_itab.lookup (7, 273) = some (100000000, 678) := by decide +kernel
theorem il_8_243 : hm_itab.lookup (8, 243) = some (100000000, 1028) := by decide +kernel
theorem cl_19_9 : hm_ctab.lookup (19, 9) = some (0, 0, 22) := by decide +kernel
theorem cl_7_1 : hm_ctab.lookup (7, 1) = some (1, 0, 25) := by decide +kernel
theorem cl_7_18 : hm_ctab.lookup (7, 18) = some (2, 1, 30) := by decide +kernel
theorem cl_0_5 : hm_ctab.lookup (0, 5) = some (1, 0, 33) := by decide +kernel
theorem cl_7_25 : hm_ctab.lookup (7, 25) = some (3, 1, 64) := by decide +kernel
theorem cl_4_3 : hm_ctab.lookup (4, 3) = some (1, 0, 67) := by decide +kernel
theorem cl_7_32 : hm_ctab.lookup (7, 32) = some (4, 1, 76) := by decide +kernel
theorem cl_6_3 : hm_ctab.lookup (6, 3) = some (1, 0, 79) := by decide +kernel
theorem cl_7_39 : hm_ctab.lookup (7, 39) = some (5, 1, 91) := by decide +kernel
theorem cl_3_3 : hm_ctab.lookup (3, 3) = some (1, 0, 94) := by decide +kernel
theorem cl_7_50 : hm_ctab.lookup (7, 50) = some (6, 0, 121) := by decide +kernel
theorem cl_2_3 : hm_ctab.lookup (2, 3) = some (1, 0, 124) := by decide +kernel
theorem cl_2_16 : hm_ctab.lookup (2, 16) = some (7, 0, 126) := by decide +kernel
theorem cl_2_19 : hm_ctab.lookup (2, 19) = some (8, 0, 130) := by decide +kernel
theorem cl_7_57 : hm_ctab.lookup (7, 57) = some (9, 0, 139) := by decide +kernel
theorem cl_9_1 : hm_ctab.lookup (9, 1) = some (10, 0, 142) := by decide +kernel
theorem cl_12_1 : hm_ctab.lookup (12, 1) = some (11, 0, 145) := by decide +kernel
theorem cl_13_1 : hm_ctab.lookup (13, 1) = some (1, 0, 148) := by decide +kernel
theorem cl_19_13 : hm_ctab.lookup (19, 13) = some (12, 0, 206) := by decide +kernel
theorem cl_7_78 : hm_ctab.lookup (7, 78) = some (13, 0, 210) := by decide +kernel
theorem cl_7_88 : hm_ctab.lookup (7, 88) = some (14, 0, 217) := by decide +kernel
theorem cl_4_16 : hm_ctab.lookup (4, 16) = some (15, 0, 221) := by decide +kernel
theorem cl_19_18 : hm_ctab.lookup (19, 18) = some (16, 0, 224) := by decide +kernel
theorem cl_7_92 : hm_ctab.lookup (7, 92) = some (17, 0, 228) := by decide +kernel
theorem cl_7_99 : hm_ctab.lookup (7, 99) = some (18, 0, 232) := by decide +kernel
theorem cl_7_103 : hm_ctab.lookup (7, 103) = some (19, 0, 236) := by decide +kernel
theorem cl_7_106 : hm_ctab.lookup (7, 106) = some (20, 0, 240) := by decide +kernel
theorem cl_7_110 : hm_ctab.lookup (7, 110) = some (21, 0, 244) := by decide +kernel
theorem cl_19_22 : hm_ctab.lookup (19, 22) = some (22, 0, 247) := by decide +kernel
theorem cl_7_96 : hm_ctab.lookup (7, 96) = some (23, 0, 251) := by decide +kernel
theorem cl_19_29 : hm_ctab.lookup (19, 29) = some (24, 0, 255) := by decide +kernel
theorem cl_7_113 : hm_ctab.lookup (7, 113) = some (25, 0, 259) := by decide +kernel
theorem cl_19_34 : hm_ctab.lookup (19, 34) = some (26, 0, 263) := by decide +kernel
theorem cl_7_117 : hm_ctab.lookup (7, 117) = some (27, 0, 267) := by decide +kernel
theorem cl_3_15 : hm_ctab.lookup (3, 15) = some (7, 0, 271) := by decide +kernel
theorem cl_3_34 : hm_ctab.lookup (3, 34) = some (28, 0, 272) := by decide +kernel
theorem cl_3_38 : hm_ctab.lookup (3, 38) = some (29, 0, 276) := by decide +kernel
theorem cl_3_42 : hm_ctab.lookup (3, 42) = some (30, 0, 280) := by decide +kernel
theorem cl_3_46 : hm_ctab.lookup (3, 46) = some (31, 0, 284) := by decide +kernel
theorem cl_3_49 : hm_ctab.lookup (3, 49) = some (32, 0, 287) := by decide +kernel
theorem cl_3_65 : hm_ctab.lookup (3, 65) = some (21, 1, 291) := by decide +kernel
theorem cl_3_52 : hm_ctab.lookup (3, 52) = some (33, 0, 292) := by decide +kernel
theorem cl_3_55 : hm_ctab.lookup (3, 55) = some (34, 0, 296) := by decide +kernel
theorem cl_3_58 : hm_ctab.lookup (3, 58) = some (35, 0, 299) := by decide +kernel
theorem cl_3_78 : hm_ctab.lookup (3, 78) = some (36, 0, 303) := by decide +kernel
theorem cl_3_82 : hm_ctab.lookup (3, 82) = some (37, 0, 307) := by decide +kernel
theorem cl_3_62 : hm_ctab.lookup (3, 62) = some (38, 0, 311) := by decide +kernel
theorem cl_3_85 : hm_ctab.lookup (3, 85) = some (39, 0, 315) := by decide +kernel
theorem cl_7_121 : hm_ctab.lookup (7, 121) = some (40, 0, 318) := by decide +kernel
theorem cl_7_124 : hm_ctab.lookup (7, 124) = some (41, 0, 322) := by decide +kernel
theorem cl_7_128 : hm_ctab.lookup (7, 128) = some (42, 0, 326) := by decide +kernel
theorem cl_9_118 : hm_ctab.lookup (9, 118) = some (43, 0, 330) := by decide +kernel
theorem cl_15_105 : hm_ctab.lookup (15, 105) = some (44, 0, 333) := by decide +kernel
theorem cl_9_123 : hm_ctab.lookup (9, 123) = some (45, 0, 336) := by decide +kernel
theorem cl_7_137 : hm_ctab.lookup (7, 137) = some (46, 0, 341) := by decide +kernel
theorem cl_7_256 : hm_ctab.lookup (7, 256) = some (47, 0, 345) := by decide +kernel
theorem cl_1_44 : hm_ctab.lookup (1, 44) = some (48, 0, 349) := by decide +kernel
theorem cl_1_54 : hm_ctab.lookup (1, 54) = some (49, 0, 353) := by decide +kernel
theorem cl_1_58 : hm_ctab.lookup (1, 58) = some (50, 0, 357) := by decide +kernel
theorem cl_1_63 : hm_ctab.lookup (1, 63) = some (51, 0, 361) := by decide +kernel
theorem cl_1_80 : hm_ctab.lookup (1, 80) = some (21, 1, 366) := by decide +kernel
theorem cl_1_67 : hm_ctab.lookup (1, 67) = some (52, 0, 367) := by decide +kernel
theorem cl_1_70 : hm_ctab.lookup (1, 70) = some (53, 0, 371) := by decide +kernel
theorem cl_7_179 : hm_ctab.lookup (7, 179) = some (54, 0, 375) := by decide +kernel
theorem cl_7_250 : hm_ctab.lookup (7, 250) = some (55, 0, 379) := by decide +kernel
theorem cl_4_36 : hm_ctab.lookup (4, 36) = some (48, 0, 383) := by decide +kernel
theorem cl_4_39 : hm_ctab.lookup (4, 39) = some (56, 0, 384) := by decide +kernel
theorem cl_1_48 : hm_ctab.lookup (1, 48) = some (57, 0, 388) := by decide +kernel
theorem cl_7_253 : hm_ctab.lookup (7, 253) = some (58, 0, 391) := by decide +kernel
theorem cl_4_28 : hm_ctab.lookup (4, 28) = some (59, 1, 395) := by decide +kernel
theorem cl_19_38 : hm_ctab.lookup (19, 38) = some (60, 0, 398) := by decide +kernel
theorem cl_19_43 : hm_ctab.lookup (19, 43) = some (61, 0, 402) := by decide +kernel
theorem cl_7_144 : hm_ctab.lookup (7, 144) = some (62, 0, 406) := by decide +kernel
theorem cl_7_148 : hm_ctab.lookup (7, 148) = some (50, 0, 409) := by decide +kernel
theorem cl_19_48 : hm_ctab.lookup (19, 48) = some (63, 0, 410) := by decide +kernel
theorem cl_7_151 : hm_ctab.lookup (7, 151) = some (64, 0, 414) := by decide +kernel
theorem cl_7_154 : hm_ctab.lookup (7, 154) = some (65, 0, 417) := by decide +kernel
theorem cl_1_3 : hm_ctab.lookup (1, 3) = some (1, 0, 420) := by decide +kernel
theorem cl_1_38 : hm_ctab.lookup (1, 38) = some (8, 0, 421) := by decide +kernel
theorem cl_7_157 : hm_ctab.lookup (7, 157) = some (66, 0, 456) := by decide +kernel
theorem cl_9_131 : hm_ctab.lookup (9, 131) = some (67, 0, 460) := by decide +kernel
theorem cl_9_129 : hm_ctab.lookup (9, 129) = some (68, 0, 464) := by decide +kernel
theorem cl_9_69 : hm_ctab.lookup (9, 69) = some (69, 0, 468) := by decide +kernel
theorem cl_9_73 : hm_ctab.lookup (9, 73) = some (70, 0, 472) := by decide +kernel
theorem cl_17_194 : hm_ctab.lookup (17, 194) = some (15, 0, 475) := by decide +kernel
theorem cl_17_201 : hm_ctab.lookup (17, 201) = some (71, 0, 477) := by decide +kernel
theorem cl_9_66 : hm_ctab.lookup (9, 66) = some (72, 0, 480) := by decide +kernel
theorem cl_11_300 : hm_ctab.lookup (11, 300) = some (73, 0, 497) := by decide +kernel
theorem cl_11_304 : hm_ctab.lookup (11, 304) = some (57, 0, 503) := by decide +kernel
theorem cl_9_79 : hm_ctab.lookup (9, 79) = some (15, 0, 507) := by decide +kernel
theorem cl_19_53 : hm_ctab.lookup (19, 53) = some (74, 0, 509) := by decide +kernel
theorem cl_7_161 : hm_ctab.lookup (7, 161) = some (75, 0, 513) := by decide +kernel
theorem cl_19_57 : hm_ctab.lookup (19, 57) = some (76, 0, 517) := by decide +kernel
theorem cl_7_168 : hm_ctab.lookup (7, 168) = some (77, 0, 521) := by decide +kernel
theorem cl_7_176 : hm_ctab.lookup (7, 176) = some (48, 0, 525) := by decide +kernel
theorem cl_7_204 : hm_ctab.lookup (7, 204) = some (49, 0, 526) := by decide +kernel
theorem cl_7_208 : hm_ctab.lookup (7, 208) = some (78, 0, 527) := by decide +kernel
theorem cl_1_73 : hm_ctab.lookup (1, 73) = some (79, 0, 531) := by decide +kernel
theorem cl_1_77 : hm_ctab.lookup (1, 77) = some (80, 0, 535) := by decide +kernel
theorem cl_7_211 : hm_ctab.lookup (7, 211) = some (81, 0, 539) := by decide +kernel
theorem cl_7_219 : hm_ctab.lookup (7, 219) = some (56, 0, 543) := by decide +kernel
theorem cl_7_222 : hm_ctab.lookup (7, 222) = some (82, 0, 544) := by decide +kernel
theorem cl_7_189 : hm_ctab.lookup (7, 189) = some (59, 0, 548) := by decide +kernel
theorem cl_7_215 : hm_ctab.lookup (7, 215) = some (83, 0, 549) := by decide +kernel
theorem cl_7_225 : hm_ctab.lookup (7, 225) = some (84, 0, 553) := by decide +kernel
theorem cl_7_228 : hm_ctab.lookup (7, 228) = some (85, 0, 557) := by decide +kernel
theorem cl_7_237 : hm_ctab.lookup (7, 237) = some (86, 0, 561) := by decide +kernel
theorem cl_7_241 : hm_ctab.lookup (7, 241) = some (87, 0, 565) := by decide +kernel
theorem cl_0_36 : hm_ctab.lookup (0, 36) = some (88, 0, 569) := by decide +kernel
theorem cl_0_42 : hm_ctab.lookup (0, 42) = some (89, 0, 572) := by decide +kernel
theorem cl_0_46 : hm_ctab.lookup (0, 46) = some (90, 0, 576) := by decide +kernel
theorem cl_0_50 : hm_ctab.lookup (0, 50) = some (91, 0, 580) := by decide +kernel
theorem cl_0_56 : hm_ctab.lookup (0, 56) = some (21, 1, 586) := by decide +kernel
theorem cl_0_59 : hm_ctab.lookup (0, 59) = some (92, 0, 587) := by decide +kernel
theorem cl_0_63 : hm_ctab.lookup (0, 63) = some (93, 0, 591) := by decide +kernel
theorem cl_19_61 : hm_ctab.lookup (19, 61) = some (94, 0, 594) := by decide +kernel
theorem cl_7_172 : hm_ctab.lookup (7, 172) = some (95, 0, 598) := by decide +kernel
theorem cl_19_65 : hm_ctab.lookup (19, 65) = some (96, 0, 602) := by decide +kernel
theorem cl_19_69 : hm_ctab.lookup (19, 69) = some (97, 0, 606) := by decide +kernel
theorem cl_19_73 : hm_ctab.lookup (19, 73) = some (98, 0, 610) := by decide +kernel
theorem cl_7_186 : hm_ctab.lookup (7, 186) = some (99, 0, 614) := by decide +kernel
theorem cl_7_192 : hm_ctab.lookup (7, 192) = some (100, 0, 618) := by decide +kernel
theorem cl_7_247 : hm_ctab.lookup (7, 247) = some (101, 0, 622) := by decide +kernel
theorem cl_19_77 : hm_ctab.lookup (19, 77) = some (102, 0, 626) := by decide +kernel
theorem cl_19_81 : hm_ctab.lookup (19, 81) = some (103, 0, 630) := by decide +kernel
theorem cl_7_201 : hm_ctab.lookup (7, 201) = some (104, 0, 634) := by decide +kernel
theorem cl_19_85 : hm_ctab.lookup (19, 85) = some (105, 0, 639) := by decide +kernel
theorem cl_7_263 : hm_ctab.lookup (7, 263) = some (106, 0, 645) := by decide +kernel
theorem cl_5_3 : hm_ctab.lookup (5, 3) = some (1, 0, 648) := by decide +kernel
theorem cl_19_89 : hm_ctab.lookup (19, 89) = some (107, 0, 670) := by decide +kernel
theorem cl_7_266 : hm_ctab.lookup (7, 266) = some (108, 0, 674) := by decide +kernel
theorem cl_19_93 : hm_ctab.lookup (19, 93) = some (109, 0, 679) := by decide +kernel
theorem cl_19_97 : hm_ctab.lookup (19, 97) = some (110, 0, 683) := by decide +kernel
theorem cl_7_274 : hm_ctab.lookup (7, 274) = some (111, 0, 687) := by decide +kernel
theorem cl_5_32 : hm_ctab.lookup (5, 32) = some (112, 0, 693) := by decide +kernel
theorem cl_19_101 : hm_ctab.lookup (19, 101) = some (113, 0, 696) := by decide +kernel
theorem cl_19_105 : hm_ctab.lookup (19, 105) = some (114, 0, 700) := by decide +kernel
theorem cl_7_290 : hm_ctab.lookup (7, 290) = some (115, 0, 704) := by decide +kernel
theorem cl_5_38 : hm_ctab.lookup (5, 38) = some (57, 0, 708) := by decide +kernel
theorem cl_19_109 : hm_ctab.lookup (19, 109) = some (116, 0, 709) := by decide +kernel
theorem cl_19_12 : hm_ctab.lookup (19, 12) = some (117, 0, 715) := by decide +kernel
theorem cl_8_1 : hm_ctab.lookup (8, 1) = some (1, 0, 718) := by decide +kernel
theorem cl_19_17 : hm_ctab.lookup (19, 17) = some (118, 0, 814) := by decide +kernel
theorem cl_8_84 : hm_ctab.lookup (8, 84) = some (119, 0, 819) := by decide +kernel
theorem cl_8_109 : hm_ctab.lookup (8, 109) = some (120, 0, 825) := by decide +kernel
theorem cl_8_96 : hm_ctab.lookup (8, 96) = some (121, 0, 829) := by decide +kernel
theorem cl_8_92 : hm_ctab.lookup (8, 92) = some (122, 0, 833) := by decide +kernel
theorem cl_8_112 : hm_ctab.lookup (8, 112) = some (123, 0, 837) := by decide +kernel
theorem cl_8_99 : hm_ctab.lookup (8, 99) = some (124, 0, 841) := by decide +kernel
theorem cl_19_21 : hm_ctab.lookup (19, 21) = some (125, 0, 845) := by decide +kernel
theorem cl_8_117 : hm_ctab.lookup (8, 117) = some (126, 0, 850) := by decide +kernel
theorem cl_19_26 : hm_ctab.lookup (19, 26) = some (127, 0, 854) := by decide +kernel
theorem cl_19_33 : hm_ctab.lookup (19, 33) = some (128, 0, 860) := by decide +kernel
theorem cl_19_37 : hm_ctab.lookup (19, 37) = some (129, 0, 865) := by decide +kernel
theorem cl_8_159 : hm_ctab.lookup (8, 159) = some (130, 0, 869) := by decide +kernel
theorem cl_8_135 : hm_ctab.lookup (8, 135) = some (131, 0, 873) := by decide +kernel
theorem cl_8_146 : hm_ctab.lookup (8, 146) = some (132, 0, 877) := by decide +kernel
theorem cl_8_143 : hm_ctab.lookup (8, 143) = some (133, 0, 880) := by decide +kernel
theorem cl_8_156 : hm_ctab.lookup (8, 156) = some (134, 0, 884) := by decide +kernel
theorem cl_8_153 : hm_ctab.lookup (8, 153) = some (135, 0, 890) := by decide +kernel
theorem cl_8_162 : hm_ctab.lookup (8, 162) = some (136, 0, 896) := by decide +kernel
theorem cl_8_183 : hm_ctab.lookup (8, 183) = some (137, 0, 900) := by decide +kernel
theorem cl_8_169 : hm_ctab.lookup (8, 169) = some (138, 0, 904) := by decide +kernel
theorem cl_8_173 : hm_ctab.lookup (8, 173) = some (139, 0, 908) := by decide +kernel
theorem cl_8_177 : hm_ctab.lookup (8, 177) = some (140, 0, 912) := by decide +kernel
theorem cl_8_180 : hm_ctab.lookup (8, 180) = some (141, 0, 916) := by decide +kernel
theorem cl_19_42 : hm_ctab.lookup (19, 42) = some (142, 0, 920) := by decide +kernel
theorem cl_19_47 : hm_ctab.lookup (19, 47) = some (143, 0, 924) := by decide +kernel
theorem cl_8_165 : hm_ctab.lookup (8, 165) = some (144, 0, 928) := by decide +kernel
theorem cl_19_52 : hm_ctab.lookup (19, 52) = some (145, 0, 931) := by decide +kernel
theorem cl_8_205 : hm_ctab.lookup (8, 205) = some (146, 0, 935) := by decide +kernel
theorem cl_19_56 : hm_ctab.lookup (19, 56) = some (147, 0, 940) := by decide +kernel
theorem cl_8_213 : hm_ctab.lookup (8, 213) = some (148, 0, 944) := by decide +kernel
theorem cl_19_60 : hm_ctab.lookup (19, 60) = some (149, 0, 950) := by decide +kernel
theorem cl_8_220 : hm_ctab.lookup (8, 220) = some (150, 0, 954) := by decide +kernel
theorem cl_8_186 : hm_ctab.lookup (8, 186) = some (151, 0, 958) := by decide +kernel
theorem cl_8_189 : hm_ctab.lookup (8, 189) = some (152, 0, 962) := by decide +kernel
theorem cl_8_193 : hm_ctab.lookup (8, 193) = some (153, 0, 966) := by decide +kernel
theorem cl_8_196 : hm_ctab.lookup (8, 196) = some (154, 0, 970) := by decide +kernel
theorem cl_8_202 : hm_ctab.lookup (8, 202) = some (155, 0, 974) := by decide +kernel
theorem cl_19_64 : hm_ctab.lookup (19, 64) = some (156, 0, 978) := by decide +kernel
theorem cl_8_223 : hm_ctab.lookup (8, 223) = some (149, 0, 982) := by decide +kernel
theorem cl_19_68 : hm_ctab.lookup (19, 68) = some (157, 0, 983) := by decide +kernel
theorem cl_19_72 : hm_ctab.lookup (19, 72) = some (158, 0, 987) := by decide +kernel
theorem cl_19_76 : hm_ctab.lookup (19, 76) = some (159, 0, 991) := by decide +kernel
theorem cl_8_226 : hm_ctab.lookup (8, 226) = some (160, 0, 995) := by decide +kernel
theorem cl_8_229 : hm_ctab.lookup (8, 229) = some (161, 0, 999) := by decide +kernel
theorem cl_19_80 : hm_ctab.lookup (19, 80) = some (162, 0, 1003) := by decide +kernel
theorem cl_19_84 : hm_ctab.lookup (19, 84) = some (163, 0, 1007) := by decide +kernel
theorem cl_8_235 : hm_ctab.lookup (8, 235) = some (164, 0, 1011) := by decide +kernel
theorem cl_19_88 : hm_ctab.lookup (19, 88) = some (165, 0, 1015) := by decide +kernel
theorem cl_19_92 : hm_ctab.lookup (19, 92) = some (166, 0, 1020) := by decide +kernel
theorem cl_8_240 : hm_ctab.lookup (8, 240) = some (167, 0, 1024) := by decide +kernel
theorem cl_19_96 : hm_ctab.lookup (19, 96) = some (168, 0, 1029) := by decide +kernel
theorem cl_19_100 : hm_ctab.lookup (19, 100) = some (169, 0, 1034) := by decide +kernel
theorem cl_19_104 : hm_ctab.lookup (19, 104) = some (170, 0, 1041) := by decide +kernel
theorem cl_8_255 : hm_ctab.lookup (8, 255) = some (171, 0, 1045) := by decide +kernel
theorem cl_19_108 : hm_ctab.lookup (19, 108) = some (172, 0, 1049) := by decide +kernel
theorem cl_19_112 : hm_ctab.lookup (19, 112) = some (173, 0, 1053) := by decide +kernel
theorem sl_9_39 : hm_stab.lookup (9, 39) = some (3, 149) := by decide +kernel
theorem sl_7_82 : hm_stab.lookup (7, 82) = some (1, 213) := by decide +kernel
theorem sl_7_85 : hm_stab.lookup (7, 85) = some (2, 215) := by decide +kernel
/-! indices that are small numbers -/
section HI
variable {d M pc : Nat} {ls st r ls2 st2 : List Value} {hp hp2 : hm_H} {Q : Option Value → hm_H → Prop} {q : hm_Q}
theorem r_ialdn {t n a k : Nat} {j : Int32} {f : Nat → Int32} (hI : hm_code M pc = some .iaload) (ha : hp.1 a = some (.inl (t, n, .inl f))) (ht : t = 0 ∨ t = 100) (hj : j = nI k) (hk : k < n) (hn : n < 2 ^ 31) (h : hm_T d M (pc + 1) ls (.int (f k) :: r) hp Q) : hm_T d M pc ls (.int j :: .ref a :: r) hp Q := by
  subst hj
  have hc : (nI k).toNatClampNeg = k := nI_clamp (by omega)
  refine r_iald hI ha ht (nI_in hk hn) ?_
  rw [hc]
  exact h
theorem r_baldn {t n a k : Nat} {j : Int32} {f : Nat → Int32} (hI : hm_code M pc = some .baload) (ha : hp.1 a = some (.inl (t, n, .inl f))) (ht : t = 2) (hj : j = nI k) (hk : k < n) (hn : n < 2 ^ 31) (h : hm_T d M (pc + 1) ls (.int (f k) :: r) hp Q) : hm_T d M pc ls (.int j :: .ref a :: r) hp Q := by
  subst hj
  have hc : (nI k).toNatClampNeg = k := nI_clamp (by omega)
  refine r_bald hI ha ht (nI_in hk hn) ?_
  rw [hc]
  exact h
theorem r_iastn {t n a k : Nat} {j x : Int32} {f : Nat → Int32} (hI : hm_code M pc = some .iastore) (ha : hp.1 a = some (.inl (t, n, .inl f))) (ht : t = 0) (hj : j = nI k) (hk : k < n) (hn : n < 2 ^ 31) (he : hm_set hp a (.inl (t, n, .inl (upd f k x))) = hp2) (h : hm_T d M (pc + 1) ls r hp2 Q) : hm_T d M pc ls (.int x :: .int j :: .ref a :: r) hp Q := by
  subst hj
  have hc : (nI k).toNatClampNeg = k := nI_clamp (by omega)
  exact r_iast hI ha ht (nI_in hk hn) (by rw [hc]; exact he) h
theorem r_bastn {t n a k : Nat} {j x : Int32} {f : Nat → Int32} (hI : hm_code M pc = some .bastore) (ha : hp.1 a = some (.inl (t, n, .inl f))) (ht : t = 2 ∧ (x = 0 ∨ x = 1)) (hj : j = nI k) (hk : k < n) (hn : n < 2 ^ 31) (he : hm_set hp a (.inl (t, n, .inl (upd f k x))) = hp2) (h : hm_T d M (pc + 1) ls r hp2 Q) : hm_T d M pc ls (.int x :: .int j :: .ref a :: r) hp Q := by
  subst hj
  have hc : (nI k).toNatClampNeg = k := nI_clamp (by omega)
  exact r_bast hI ha ht (nI_in hk hn) (by rw [hc]; exact he) h
theorem r_aaldn {t n a k : Nat} {j : Int32} {f : Nat → Option Nat} {v : Value} (hI : hm_code M pc = some .aaload) (ha : hp.1 a = some (.inl (t, n, .inr (.inr (.inr (.inr f)))))) (ht : t = 3 ∨ t = 4 ∨ t = 5 ∨ t = 6) (hj : j = nI k) (hk : k < n) (hn : n < 2 ^ 31) (hv : va_rf (f k) = v) (h : hm_T d M (pc + 1) ls (v :: r) hp Q) : hm_T d M pc ls (.int j :: .ref a :: r) hp Q := by
  subst hj
  subst hv
  have hc : (nI k).toNatClampNeg = k := nI_clamp (by omega)
  refine r_aald hI ha ht (nI_in hk hn) ?_
  rw [hc]
  exact h
theorem r_laldn {t n a k : Nat} {j : Int32} {f : Nat → Int64} (hI : hm_code M pc = some .laload) (ha : hp.1 a = some (.inl (t, n, .inr (.inl f)))) (ht : t = 1) (hj : j = nI k) (hk : k < n) (hn : n < 2 ^ 31) (h : hm_T d M (pc + 1) ls (.long (f k) :: r) hp Q) : hm_T d M pc ls (.int j :: .ref a :: r) hp Q := by
  subst hj
  have hc : (nI k).toNatClampNeg = k := nI_clamp (by omega)
  refine r_lald hI ha ht (nI_in hk hn) ?_
  rw [hc]
  exact h
theorem r_lastn {t n a k : Nat} {j : Int32} {x : Int64} {f : Nat → Int64} (hI : hm_code M pc = some .lastore) (ha : hp.1 a = some (.inl (t, n, .inr (.inl f)))) (ht : t = 1) (hj : j = nI k) (hk : k < n) (hn : n < 2 ^ 31) (he : hm_set hp a (.inl (t, n, .inr (.inl (vp_updL f k x)))) = hp2) (h : hm_T d M (pc + 1) ls r hp2 Q) : hm_T d M pc ls (.long x :: .int j :: .ref a :: r) hp Q := by
  subst hj
  have hc : (nI k).toNatClampNeg = k := nI_clamp (by omega)
  exact r_last hI ha ht (nI_in hk hn) (by rw [hc]; exact he) h
/-- a call with its answer's place on the stack made plain -/
theorem r_callN {as rest l0 : List Value} {cc : Nat} {i : Instr} (hq : hm_mtab[M]? = some q) (hI : hm_code M pc = some i) (hr : ∀ ret, hm_ret i ret st = none) (hs : hm_step q i pc ls st hp = none) (hc : hm_cal q i st hp = some (cc, as, rest)) (he : hm_ent cc as = some l0) (h : hm_T d cc 0 l0 [] hp (fun v hp2 => ∀ st2, v.toList ++ rest = st2 → hm_T (d + 1) M (pc + 3) ls st2 hp2 Q)) : hm_T (d + 1) M pc ls st hp Q :=
  hm_T.call hq hI hr hs hc he (h.mono fun v hp2 h2 => h2 _ rfl)
end HI
