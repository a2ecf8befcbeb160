def hm_lo (h h2 : Nat → Option va_E) : Prop := ∀ j, j < 84 → h2 j = h j
theorem hm_lo.rfl2 (h : Nat → Option va_E) : hm_lo h h := fun _ _ => rfl
theorem hm_lo.tr {h h2 h3 : Nat → Option va_E} (a : hm_lo h h2) (b : hm_lo h2 h3) : hm_lo h h3 := fun j hj => (b j hj).trans (a j hj)
/-- a later cell is written -/
theorem hm_wd {k : hm_M} {ad : hm_AD} {g : Nat → Nat × Nat} {nc np n : Nat} {h : Nat → Option va_E} (X : hm_D k ad g nc np n h) {w : hm_W} {s x : Nat} {y : Nat × Nat} (hx : g x = y) (hy : y.1 ≠ 0) {k2 : hm_M} (hs : hm_cC k2 ad w = hm_cC k ad w) (ho : ∀ z : Nat × Nat, z ≠ y → hm_dc k2 ad z = hm_dc k ad z) (h9 : k2 9 0 = k 9 0) (h18 : k2 18 0 = k 18 0) (h10 : k2 10 = k 10) : hm_set (hm_hC k ad w h n s) x (hm_dc k2 ad y) = hm_hC k2 ad w (hm_up h x (hm_dc k2 ad y)) n s ∧ hm_D k2 ad g nc np n (hm_up h x (hm_dc k2 ad y)) ∧ hm_lo h (hm_up h x (hm_dc k2 ad y)) := by
  have hr := X.rg x (by rw [hx]; exact hy)
  have hlo : hm_lo h (hm_up h x (hm_dc k2 ad y)) := fun j hj => if_neg (by omega)
  refine ⟨?_, ?_, hlo⟩
  · rw [hm_seg_far (Or.inr (show 4 + 57 ≤ x by omega))]
    show _ = (hm_seg 4 (hm_cC k2 ad w) _, n, s)
    rw [hs]
  · refine ⟨fun j hj => ?_, X.inj, X.cs, X.pl, X.rg, h9.trans X.nc, X.nc16, h18.trans X.np, X.np16, X.l1, X.l2, X.p, X.pi, (hlo 1 (by decide)).trans X.h1, (hlo 2 (by decide)).trans X.h2, (hlo 3 (by decide)).trans X.h3, by rw [h10]; exact X.fa⟩
    by_cases hjx : j = x
    · subst hjx
      rw [hx]
      exact if_pos rfl
    · refine (if_neg hjx).trans ?_
      rw [X.at j hj, ho (g j) (fun z => hjx (X.inj j x hj (z.trans hx.symm)))]
theorem hm_dc_ne {k k2 : hm_M} {ad : hm_AD} {y : Nat × Nat} (h1 : ∀ c, y ≠ (1, c) → hm_cf k2 ad c = hm_cf k ad c) (h2 : ∀ c, y ≠ (2, c) → k2 (101 + 2 * c) = k (101 + 2 * c)) (h3 : ∀ c, y ≠ (3, c) → k2 (100 + 2 * c) = k (100 + 2 * c)) (h4 : ∀ q, y ≠ (4, q) → hm_pf k2 q = hm_pf k q) : ∀ z : Nat × Nat, z ≠ y → hm_dc k2 ad z = hm_dc k ad z := by
  rintro ⟨a, b⟩ hz
  unfold hm_dc
  dsimp only
  by_cases e1 : a = 1
  · subst e1
    rw [if_pos rfl, if_pos rfl, h1 b (fun z => hz z.symm)]
  rw [if_neg e1, if_neg e1]
  by_cases e2 : a = 2
  · subst e2
    rw [if_pos rfl, if_pos rfl, h2 b (fun z => hz z.symm)]
  rw [if_neg e2, if_neg e2]
  by_cases e3 : a = 3
  · subst e3
    rw [if_pos rfl, if_pos rfl, h3 b (fun z => hz z.symm)]
  rw [if_neg e3, if_neg e3]
  by_cases e4 : a = 4
  · subst e4
    rw [if_pos rfl, if_pos rfl, h4 b (fun z => hz z.symm)]
  rw [if_neg e4, if_neg e4]
theorem hm_upd_o {f : Nat → Int32} {i j : Nat} {x : Int32} (h : ¬ j = i) : upd f i x j = f j := if_neg h
theorem wD_20 {k : hm_M} {ad : hm_AD} {g : Nat → Nat × Nat} {nc np n : Nat} {h : Nat → Option va_E} (X : hm_D k ad g nc np n h) {w : hm_W} {s q : Nat} (hq : q < np) (x : Int32) : ∃ h2, hm_set (hm_hC k ad w h n s) (ad 2 q) (.inr (5, (hm_pf k q).set 1 (.int x))) = hm_hC (hm_uM k 20 (upd (k 20) q x)) ad w h2 n s ∧ hm_D (hm_uM k 20 (upd (k 20) q x)) ad g nc np n h2 ∧ hm_lo h h2 := by
  have e := hm_wd X (w := w) (s := s) (X.pl q hq) (fun z => Nat.noConfusion z) (k2 := (hm_uM k 20 (upd (k 20) q x))) rfl (hm_dc_ne (fun c _ => rfl) (fun c _ => if_neg (by omega)) (fun c _ => if_neg (by omega)) (fun q2 hz => ?_)) rfl rfl rfl
  · have e2 : hm_dc (hm_uM k 20 (upd (k 20) q x)) ad (4, q) = .inr (5, (hm_pf k q).set 1 (.int x)) := by
      show (Sum.inr (5, hm_pf (hm_uM k 20 (upd (k 20) q x)) q) : va_E) = _
      have e3 : (hm_uM k 20 (upd (k 20) q x)) 20 q = x := if_pos rfl
      show (Sum.inr (5, ([.int ((hm_uM k 20 (upd (k 20) q x)) 19 q), .int ((hm_uM k 20 (upd (k 20) q x)) 20 q), .int ((hm_uM k 20 (upd (k 20) q x)) 21 q), .int ((hm_uM k 20 (upd (k 20) q x)) 33 q), .int ((hm_uM k 20 (upd (k 20) q x)) 22 q)] : List Value)) : va_E) = _
      rw [e3]
      rfl
    rw [e2] at e
    exact ⟨_, e⟩
  · have hne : ¬ q2 = q := fun z => hz (by rw [z])
    show [Value.int ((hm_uM k 20 (upd (k 20) q x)) 19 q2), .int ((hm_uM k 20 (upd (k 20) q x)) 20 q2), .int ((hm_uM k 20 (upd (k 20) q x)) 21 q2), .int ((hm_uM k 20 (upd (k 20) q x)) 33 q2), .int ((hm_uM k 20 (upd (k 20) q x)) 22 q2)] = _
    rw [show (hm_uM k 20 (upd (k 20) q x)) 20 q2 = k 20 q2 from if_neg hne]
    rfl
theorem wD_21 {k : hm_M} {ad : hm_AD} {g : Nat → Nat × Nat} {nc np n : Nat} {h : Nat → Option va_E} (X : hm_D k ad g nc np n h) {w : hm_W} {s q : Nat} (hq : q < np) (x : Int32) : ∃ h2, hm_set (hm_hC k ad w h n s) (ad 2 q) (.inr (5, (hm_pf k q).set 2 (.int x))) = hm_hC (hm_uM k 21 (upd (k 21) q x)) ad w h2 n s ∧ hm_D (hm_uM k 21 (upd (k 21) q x)) ad g nc np n h2 ∧ hm_lo h h2 := by
  have e := hm_wd X (w := w) (s := s) (X.pl q hq) (fun z => Nat.noConfusion z) (k2 := (hm_uM k 21 (upd (k 21) q x))) rfl (hm_dc_ne (fun c _ => rfl) (fun c _ => if_neg (by omega)) (fun c _ => if_neg (by omega)) (fun q2 hz => ?_)) rfl rfl rfl
  · have e2 : hm_dc (hm_uM k 21 (upd (k 21) q x)) ad (4, q) = .inr (5, (hm_pf k q).set 2 (.int x)) := by
      show (Sum.inr (5, hm_pf (hm_uM k 21 (upd (k 21) q x)) q) : va_E) = _
      have e3 : (hm_uM k 21 (upd (k 21) q x)) 21 q = x := if_pos rfl
      show (Sum.inr (5, ([.int ((hm_uM k 21 (upd (k 21) q x)) 19 q), .int ((hm_uM k 21 (upd (k 21) q x)) 20 q), .int ((hm_uM k 21 (upd (k 21) q x)) 21 q), .int ((hm_uM k 21 (upd (k 21) q x)) 33 q), .int ((hm_uM k 21 (upd (k 21) q x)) 22 q)] : List Value)) : va_E) = _
      rw [e3]
      rfl
    rw [e2] at e
    exact ⟨_, e⟩
  · have hne : ¬ q2 = q := fun z => hz (by rw [z])
    show [Value.int ((hm_uM k 21 (upd (k 21) q x)) 19 q2), .int ((hm_uM k 21 (upd (k 21) q x)) 20 q2), .int ((hm_uM k 21 (upd (k 21) q x)) 21 q2), .int ((hm_uM k 21 (upd (k 21) q x)) 33 q2), .int ((hm_uM k 21 (upd (k 21) q x)) 22 q2)] = _
    rw [show (hm_uM k 21 (upd (k 21) q x)) 21 q2 = k 21 q2 from if_neg hne]
    rfl
theorem wD_22 {k : hm_M} {ad : hm_AD} {g : Nat → Nat × Nat} {nc np n : Nat} {h : Nat → Option va_E} (X : hm_D k ad g nc np n h) {w : hm_W} {s q : Nat} (hq : q < np) (x : Int32) : ∃ h2, hm_set (hm_hC k ad w h n s) (ad 2 q) (.inr (5, (hm_pf k q).set 4 (.int x))) = hm_hC (hm_uM k 22 (upd (k 22) q x)) ad w h2 n s ∧ hm_D (hm_uM k 22 (upd (k 22) q x)) ad g nc np n h2 ∧ hm_lo h h2 := by
  have e := hm_wd X (w := w) (s := s) (X.pl q hq) (fun z => Nat.noConfusion z) (k2 := (hm_uM k 22 (upd (k 22) q x))) rfl (hm_dc_ne (fun c _ => rfl) (fun c _ => if_neg (by omega)) (fun c _ => if_neg (by omega)) (fun q2 hz => ?_)) rfl rfl rfl
  · have e2 : hm_dc (hm_uM k 22 (upd (k 22) q x)) ad (4, q) = .inr (5, (hm_pf k q).set 4 (.int x)) := by
      show (Sum.inr (5, hm_pf (hm_uM k 22 (upd (k 22) q x)) q) : va_E) = _
      have e3 : (hm_uM k 22 (upd (k 22) q x)) 22 q = x := if_pos rfl
      show (Sum.inr (5, ([.int ((hm_uM k 22 (upd (k 22) q x)) 19 q), .int ((hm_uM k 22 (upd (k 22) q x)) 20 q), .int ((hm_uM k 22 (upd (k 22) q x)) 21 q), .int ((hm_uM k 22 (upd (k 22) q x)) 33 q), .int ((hm_uM k 22 (upd (k 22) q x)) 22 q)] : List Value)) : va_E) = _
      rw [e3]
      rfl
    rw [e2] at e
    exact ⟨_, e⟩
  · have hne : ¬ q2 = q := fun z => hz (by rw [z])
    show [Value.int ((hm_uM k 22 (upd (k 22) q x)) 19 q2), .int ((hm_uM k 22 (upd (k 22) q x)) 20 q2), .int ((hm_uM k 22 (upd (k 22) q x)) 21 q2), .int ((hm_uM k 22 (upd (k 22) q x)) 33 q2), .int ((hm_uM k 22 (upd (k 22) q x)) 22 q2)] = _
    rw [show (hm_uM k 22 (upd (k 22) q x)) 22 q2 = k 22 q2 from if_neg hne]
    rfl
theorem wD_33 {k : hm_M} {ad : hm_AD} {g : Nat → Nat × Nat} {nc np n : Nat} {h : Nat → Option va_E} (X : hm_D k ad g nc np n h) {w : hm_W} {s q : Nat} (hq : q < np) (x : Int32) : ∃ h2, hm_set (hm_hC k ad w h n s) (ad 2 q) (.inr (5, (hm_pf k q).set 3 (.int x))) = hm_hC (hm_uM k 33 (upd (k 33) q x)) ad w h2 n s ∧ hm_D (hm_uM k 33 (upd (k 33) q x)) ad g nc np n h2 ∧ hm_lo h h2 := by
  have e := hm_wd X (w := w) (s := s) (X.pl q hq) (fun z => Nat.noConfusion z) (k2 := (hm_uM k 33 (upd (k 33) q x))) rfl (hm_dc_ne (fun c _ => rfl) (fun c _ => if_neg (by omega)) (fun c _ => if_neg (by omega)) (fun q2 hz => ?_)) rfl rfl rfl
  · have e2 : hm_dc (hm_uM k 33 (upd (k 33) q x)) ad (4, q) = .inr (5, (hm_pf k q).set 3 (.int x)) := by
      show (Sum.inr (5, hm_pf (hm_uM k 33 (upd (k 33) q x)) q) : va_E) = _
      have e3 : (hm_uM k 33 (upd (k 33) q x)) 33 q = x := if_pos rfl
      show (Sum.inr (5, ([.int ((hm_uM k 33 (upd (k 33) q x)) 19 q), .int ((hm_uM k 33 (upd (k 33) q x)) 20 q), .int ((hm_uM k 33 (upd (k 33) q x)) 21 q), .int ((hm_uM k 33 (upd (k 33) q x)) 33 q), .int ((hm_uM k 33 (upd (k 33) q x)) 22 q)] : List Value)) : va_E) = _
      rw [e3]
      rfl
    rw [e2] at e
    exact ⟨_, e⟩
  · have hne : ¬ q2 = q := fun z => hz (by rw [z])
    show [Value.int ((hm_uM k 33 (upd (k 33) q x)) 19 q2), .int ((hm_uM k 33 (upd (k 33) q x)) 20 q2), .int ((hm_uM k 33 (upd (k 33) q x)) 21 q2), .int ((hm_uM k 33 (upd (k 33) q x)) 33 q2), .int ((hm_uM k 33 (upd (k 33) q x)) 22 q2)] = _
    rw [show (hm_uM k 33 (upd (k 33) q x)) 33 q2 = k 33 q2 from if_neg hne]
    rfl
theorem wD_34 {k : hm_M} {ad : hm_AD} {g : Nat → Nat × Nat} {nc np n : Nat} {h : Nat → Option va_E} (X : hm_D k ad g nc np n h) {w : hm_W} {s c : Nat} (hc : c < nc) (x : Int32) : ∃ h2, hm_set (hm_hC k ad w h n s) (ad 1 c) (.inr (1, (hm_cf k ad c).set 6 (.int x))) = hm_hC (hm_uM k 34 (upd (k 34) c x)) ad w h2 n s ∧ hm_D (hm_uM k 34 (upd (k 34) c x)) ad g nc np n h2 ∧ hm_lo h h2 := by
  have e := hm_wd X (w := w) (s := s) (X.cs c hc).1 (fun z => Nat.noConfusion z) (k2 := (hm_uM k 34 (upd (k 34) c x))) rfl (hm_dc_ne (fun c2 hz => ?_) (fun c _ => if_neg (by omega)) (fun c _ => if_neg (by omega)) (fun q2 _ => rfl)) rfl rfl rfl
  · have e2 : hm_dc (hm_uM k 34 (upd (k 34) c x)) ad (1, c) = .inr (1, (hm_cf k ad c).set 6 (.int x)) := by
      have e3 : (hm_uM k 34 (upd (k 34) c x)) 34 c = x := if_pos rfl
      show (Sum.inr (1, ([.int ((hm_uM k 34 (upd (k 34) c x)) 10 c), .int ((hm_uM k 34 (upd (k 34) c x)) 11 c), .int ((hm_uM k 34 (upd (k 34) c x)) 12 c), .int ((hm_uM k 34 (upd (k 34) c x)) 13 c), .ref (ad 1 c + 1), .ref (ad 1 c + 2), .int ((hm_uM k 34 (upd (k 34) c x)) 34 c), .int ((hm_uM k 34 (upd (k 34) c x)) 16 c)] : List Value)) : va_E) = _
      rw [e3]
      rfl
    rw [e2] at e
    exact ⟨_, e⟩
  · have hne : ¬ c2 = c := fun z => hz (by rw [z])
    show ([.int ((hm_uM k 34 (upd (k 34) c x)) 10 c2), .int ((hm_uM k 34 (upd (k 34) c x)) 11 c2), .int ((hm_uM k 34 (upd (k 34) c x)) 12 c2), .int ((hm_uM k 34 (upd (k 34) c x)) 13 c2), .ref (ad 1 c2 + 1), .ref (ad 1 c2 + 2), .int ((hm_uM k 34 (upd (k 34) c x)) 34 c2), .int ((hm_uM k 34 (upd (k 34) c x)) 16 c2)] : List Value) = _
    rw [show (hm_uM k 34 (upd (k 34) c x)) 34 c2 = k 34 c2 from if_neg hne]
    rfl
theorem wD_16 {k : hm_M} {ad : hm_AD} {g : Nat → Nat × Nat} {nc np n : Nat} {h : Nat → Option va_E} (X : hm_D k ad g nc np n h) {w : hm_W} {s c : Nat} (hc : c < nc) (x : Int32) : ∃ h2, hm_set (hm_hC k ad w h n s) (ad 1 c) (.inr (1, (hm_cf k ad c).set 7 (.int x))) = hm_hC (hm_uM k 16 (upd (k 16) c x)) ad w h2 n s ∧ hm_D (hm_uM k 16 (upd (k 16) c x)) ad g nc np n h2 ∧ hm_lo h h2 := by
  have e := hm_wd X (w := w) (s := s) (X.cs c hc).1 (fun z => Nat.noConfusion z) (k2 := (hm_uM k 16 (upd (k 16) c x))) rfl (hm_dc_ne (fun c2 hz => ?_) (fun c _ => if_neg (by omega)) (fun c _ => if_neg (by omega)) (fun q2 _ => rfl)) rfl rfl rfl
  · have e2 : hm_dc (hm_uM k 16 (upd (k 16) c x)) ad (1, c) = .inr (1, (hm_cf k ad c).set 7 (.int x)) := by
      have e3 : (hm_uM k 16 (upd (k 16) c x)) 16 c = x := if_pos rfl
      show (Sum.inr (1, ([.int ((hm_uM k 16 (upd (k 16) c x)) 10 c), .int ((hm_uM k 16 (upd (k 16) c x)) 11 c), .int ((hm_uM k 16 (upd (k 16) c x)) 12 c), .int ((hm_uM k 16 (upd (k 16) c x)) 13 c), .ref (ad 1 c + 1), .ref (ad 1 c + 2), .int ((hm_uM k 16 (upd (k 16) c x)) 34 c), .int ((hm_uM k 16 (upd (k 16) c x)) 16 c)] : List Value)) : va_E) = _
      rw [e3]
      rfl
    rw [e2] at e
    exact ⟨_, e⟩
  · have hne : ¬ c2 = c := fun z => hz (by rw [z])
    show ([.int ((hm_uM k 16 (upd (k 16) c x)) 10 c2), .int ((hm_uM k 16 (upd (k 16) c x)) 11 c2), .int ((hm_uM k 16 (upd (k 16) c x)) 12 c2), .int ((hm_uM k 16 (upd (k 16) c x)) 13 c2), .ref (ad 1 c2 + 1), .ref (ad 1 c2 + 2), .int ((hm_uM k 16 (upd (k 16) c x)) 34 c2), .int ((hm_uM k 16 (upd (k 16) c x)) 16 c2)] : List Value) = _
    rw [show (hm_uM k 16 (upd (k 16) c x)) 16 c2 = k 16 c2 from if_neg hne]
    rfl
theorem wD_h {k : hm_M} {ad : hm_AD} {g : Nat → Nat × Nat} {nc np n : Nat} {h : Nat → Option va_E} (X : hm_D k ad g nc np n h) {w : hm_W} {s c : Nat} (hc : c < nc) (f : Nat → Int32) : ∃ h2, hm_set (hm_hC k ad w h n s) (ad 1 c + 2) (.inl (0, 4, .inl f)) = hm_hC (hm_uM k (100 + 2 * c) f) ad w h2 n s ∧ hm_D (hm_uM k (100 + 2 * c) f) ad g nc np n h2 ∧ hm_lo h h2 := by
  have h16 := X.nc16
  have hlit : ∀ j, j < 100 → (hm_uM k (100 + 2 * c) f) j = k j := fun j hj => if_neg (by omega)
  have e := hm_wd X (w := w) (s := s) (X.cs c hc).2.2 (fun z => Nat.noConfusion z) (k2 := (hm_uM k (100 + 2 * c) f)) (hm_cC_c (fun j hj => hlit j (by omega))) (hm_dc_ne (fun c2 _ => ?_) (fun c2 hz => ?_) (fun c2 hz => ?_) (fun q2 _ => ?_)) (by rw [hlit 9 (by decide)]) (by rw [hlit 18 (by decide)]) (hlit 10 (by decide))
  · have e2 : hm_dc (hm_uM k (100 + 2 * c) f) ad (3, c) = .inl (0, 4, .inl f) := by
      show (Sum.inl (0, 4, Sum.inl ((hm_uM k (100 + 2 * c) f) (100 + 2 * c))) : va_E) = _
      rw [show (hm_uM k (100 + 2 * c) f) (100 + 2 * c) = f from if_pos rfl]
    rw [e2] at e
    exact ⟨_, e⟩
  · unfold hm_cf
    rw [hlit 10 (by decide), hlit 11 (by decide), hlit 12 (by decide), hlit 13 (by decide), hlit 34 (by decide), hlit 16 (by decide)]
  · exact if_neg (by omega)
  · exact if_neg (fun z => hz (by rw [show c2 = c by omega]))
  · unfold hm_pf
    rw [hlit 19 (by decide), hlit 20 (by decide), hlit 21 (by decide), hlit 33 (by decide), hlit 22 (by decide)]
theorem wD_p {k : hm_M} {ad : hm_AD} {g : Nat → Nat × Nat} {nc np n : Nat} {h : Nat → Option va_E} (X : hm_D k ad g nc np n h) {w : hm_W} {s c : Nat} (hc : c < nc) (f : Nat → Int32) : ∃ h2, hm_set (hm_hC k ad w h n s) (ad 1 c + 1) (.inl (0, 6, .inl f)) = hm_hC (hm_uM k (101 + 2 * c) f) ad w h2 n s ∧ hm_D (hm_uM k (101 + 2 * c) f) ad g nc np n h2 ∧ hm_lo h h2 := by
  have h16 := X.nc16
  have hlit : ∀ j, j < 100 → (hm_uM k (101 + 2 * c) f) j = k j := fun j hj => if_neg (by omega)
  have e := hm_wd X (w := w) (s := s) (X.cs c hc).2.1 (fun z => Nat.noConfusion z) (k2 := (hm_uM k (101 + 2 * c) f)) (hm_cC_c (fun j hj => hlit j (by omega))) (hm_dc_ne (fun c2 _ => ?_) (fun c2 hz => ?_) (fun c2 hz => ?_) (fun q2 _ => ?_)) (by rw [hlit 9 (by decide)]) (by rw [hlit 18 (by decide)]) (hlit 10 (by decide))
  · have e2 : hm_dc (hm_uM k (101 + 2 * c) f) ad (2, c) = .inl (0, 6, .inl f) := by
      show (Sum.inl (0, 6, Sum.inl ((hm_uM k (101 + 2 * c) f) (101 + 2 * c))) : va_E) = _
      rw [show (hm_uM k (101 + 2 * c) f) (101 + 2 * c) = f from if_pos rfl]
    rw [e2] at e
    exact ⟨_, e⟩
  · unfold hm_cf
    rw [hlit 10 (by decide), hlit 11 (by decide), hlit 12 (by decide), hlit 13 (by decide), hlit 34 (by decide), hlit 16 (by decide)]
  · exact if_neg (fun z => hz (by rw [show c2 = c by omega]))
  · exact if_neg (by omega)
  · unfold hm_pf
    rw [hlit 19 (by decide), hlit 20 (by decide), hlit 21 (by decide), hlit 33 (by decide), hlit 22 (by decide)]
theorem hm_D.st {k : hm_M} {ad : hm_AD} {g : Nat → Nat × Nat} {nc np n : Nat} {h : Nat → Option va_E} (X : hm_D k ad g nc np n h) {k2 : hm_M} (hf : ∀ j, 100 ≤ j → k2 j = k j) (hl : k2 9 = k 9 ∧ k2 10 = k 10 ∧ k2 11 = k 11 ∧ k2 12 = k 12 ∧ k2 13 = k 13 ∧ k2 34 = k 34 ∧ k2 16 = k 16 ∧ k2 18 = k 18 ∧ k2 19 = k 19 ∧ k2 20 = k 20 ∧ k2 21 = k 21 ∧ k2 33 = k 33 ∧ k2 22 = k 22) : hm_D k2 ad g nc np n h := by
  obtain ⟨a9, a10, a11, a12, a13, a34, a16, a18, a19, a20, a21, a33, a22⟩ := hl
  refine ⟨fun j hj => ?_, X.inj, X.cs, X.pl, X.rg, by rw [a9]; exact X.nc, X.nc16, by rw [a18]; exact X.np, X.np16, X.l1, X.l2, X.p, X.pi, X.h1, X.h2, X.h3, by rw [a10]; exact X.fa⟩
  rw [X.at j hj]
  unfold hm_dc hm_cf hm_pf
  rw [a10, a11, a12, a13, a34, a16, a19, a20, a21, a33, a22, hf _ (by omega), hf _ (by omega)]
