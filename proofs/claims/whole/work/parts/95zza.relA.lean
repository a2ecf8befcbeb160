/-! THE RELATION OF BOTH SIDES, as it stands at the calls' ends -/
def hw_fl (j : Nat) : Bool := decide (j = 0 ∨ j = 1 ∨ j = 3 ∨ j = 6 ∨ j = 10 ∨ j = 11 ∨ j = 12 ∨ j = 13 ∨ j = 16 ∨ j = 19 ∨ j = 20 ∨ j = 21 ∨ j = 22)
def hw_fz (j : Nat) : Bool := decide (j = 2 ∨ j = 7 ∨ j = 8 ∨ j = 17 ∨ j = 23)
def hw_E (k m : hm_M) : Prop := (∀ j, hw_fl j = true → k j = m j) ∧ ∀ j, hw_fz j = true → k j 0 = m j 0
theorem hw_fl_lt {j : Nat} (h : hw_fl j = true) : j < 24 := by
  have h2 := of_decide_eq_true h
  omega
theorem hw_fz_lt {j : Nat} (h : hw_fz j = true) : j < 24 := by
  have h2 := of_decide_eq_true h
  omega
theorem hw_E.u {k m : hm_M} {x : Nat} {f f2 : Nat → Int32} (E : hw_E k m) (h1 : hw_fl x = true → f = f2) (h2 : hw_fz x = true → f 0 = f2 0) : hw_E (hm_uM k x f) (hm_uM m x f2) := by
  refine ⟨fun j hj => ?_, fun j hj => ?_⟩
  · by_cases e : j = x
    · subst e
      rw [hm_uMe, hm_uMe]
      exact h1 hj
    · rw [hm_uMo _ _ e, hm_uMo _ _ e]
      exact E.1 j hj
  · by_cases e : j = x
    · subst e
      rw [hm_uMe, hm_uMe]
      exact h2 hj
    · rw [hm_uMo _ _ e, hm_uMo _ _ e]
      exact E.2 j hj
theorem hw_E.c {k k2 m m2 : hm_M} (E : hw_E k m) (hk : ∀ j, j < 24 → hw_fl j = true ∨ hw_fz j = true → k2 j = k j) (hm : ∀ j, j < 24 → hw_fl j = true ∨ hw_fz j = true → m2 j = m j) : hw_E k2 m2 := by
  refine ⟨fun j hj => ?_, fun j hj => ?_⟩
  · rw [hk j (hw_fl_lt hj) (Or.inl hj), hm j (hw_fl_lt hj) (Or.inl hj)]
    exact E.1 j hj
  · rw [hk j (hw_fz_lt hj) (Or.inr hj), hm j (hw_fz_lt hj) (Or.inr hj)]
    exact E.2 j hj
theorem hw_E.uk {k m : hm_M} {x : Nat} {f : Nat → Int32} (E : hw_E k m) (h : hw_fl x = false) (h2 : hw_fz x = false) : hw_E (hm_uM k x f) m := E.c (fun j _ hj => hm_uMo _ _ (fun z => by
  rw [z, h, h2] at hj
  exact hj.elim (fun y => nomatch y) (fun y => nomatch y))) (fun _ _ _ => rfl)
theorem hw_E.um {k m : hm_M} {x : Nat} {f : Nat → Int32} (E : hw_E k m) (h : hw_fl x = false) (h2 : hw_fz x = false) : hw_E k (hm_uM m x f) := E.c (fun _ _ _ => rfl) (fun j _ hj => hm_uMo _ _ (fun z => by
  rw [z, h, h2] at hj
  exact hj.elim (fun y => nomatch y) (fun y => nomatch y)))
def hw_Z (m : hm_M) (nc np nb : Nat) : Prop := m 9 0 = nI nc ∧ nc ≤ 16 ∧ m 18 0 = nI np ∧ np ≤ 16 ∧ m 2 0 = nI nb ∧ (∃ N, N ≤ 100 ∧ m 7 0 = nI N ∧ ∀ i, i < N → 0 ≤ m 6 i) ∧ (∀ c, nc ≤ c → m 16 c = 0)
def hw_B (m : hm_M) : Prop := ∀ f t, f < 4 → t < 4 → hm_bv (m 4 (20 * f + 5 * t + 1)) ∧ hm_bv (m 4 (20 * f + 5 * t + 2))
def hw_A (m : hm_M) (nc : Nat) : Prop := ∀ c, c < nc → (∃ f, m 10 c = nI f ∧ f < 4) ∧ (∃ d0, m 11 c = nI d0 ∧ d0 < 400) ∧ ∀ i, i < 6 → hm_hv (m 14 (6 * c + i))
def hw_Y (k m : hm_M) (nc np : Nat) : Prop := (∀ q, q < np → (m 21 q = -1 ∧ m 22 q = 0 ∧ k 33 q = 0) ∨ ∃ c, c < nc ∧ m 21 q = nI c ∧ k 34 c = nI q ∧ (m 16 c = 0 → m 22 q = 0)) ∧ (∀ c, c < nc → k 34 c = -1 ∨ ∃ q, q < np ∧ k 34 c = nI q ∧ m 21 q = nI c) ∧ k 32 0 = hm_sg (m 22) np
def hw_R (k : hm_M) (ad : hm_AD) (m : hm_M) (nc np nb : Nat) : Prop := hw_E k m ∧ hr_U k m nc nb ∧ hx_P k m nc ∧ hx_L k ad m ∧ hr_C m nc nb ∧ hw_Z m nc np nb ∧ hw_B m ∧ hw_A m nc ∧ hw_Y k m nc np
theorem hr_F_c {m m2 : hm_M} {nc nb : Nat} (h3 : m2 3 = m 3) (h12 : m2 12 = m 12) (h13 : m2 13 = m 13) : hr_F m2 nc nb = hr_F m nc nb := by
  funext c
  unfold hr_F
  rw [h3, h12, h13]
theorem hr_U.c {k k2 m m2 : hm_M} {nc nb : Nat} (U : hr_U k m nc nb) (hk : ∀ j, j = 31 ∨ (40 ≤ j ∧ j ≤ 45) ∨ 100 ≤ j → k2 j = k j) (h15 : m2 15 = m 15) (h3 : m2 3 = m 3) (h12 : m2 12 = m 12) (h13 : m2 13 = m 13) (h0 : ∃ c0, m2 0 0 = nI c0 ∧ c0 ≤ 4 ∧ ∀ hh, hh < 400 → hm_cnt (fun j => decide (m 15 j = nI hh)) (4 * nc) ≤ c0) : hr_U k2 m2 nc nb := by
  obtain ⟨hH, hv, hd, _, hR, hS, h31⟩ := U
  refine ⟨fun c hc t ht => ?_, fun j hj => ?_, fun c hc t u ht hu htu e => ?_, ?_, fun hh h4 => ?_, fun hh h4 => ?_, ?_⟩
  · rw [hk _ (by omega), h15]
    exact hH c hc t ht
  · rw [h15]
    exact hv j hj
  · rw [h15] at e ⊢
    exact hd c hc t u ht hu htu e
  · obtain ⟨c0, a, b, e⟩ := h0
    exact ⟨c0, a, b, fun hh h4 => by rw [h15]; exact e hh h4⟩
  · have e : hm_car m2 (nI hh) = hm_car m (nI hh) := by
      unfold hm_car
      rw [h15, h12]
    rw [hk 40 (by omega), hk 41 (by omega), hk 42 (by omega), hk 43 (by omega), hk 44 (by omega), hk 45 (by omega), h15, e]
    exact hR hh h4
  · rw [hr_F_c h3 h12 h13, hr_same (k := k) nc (fun x _ => by unfold hc_car; rw [hk _ (by omega)])]
    exact hS hh h4
  · rw [hk 31 (by omega), h15]
    exact h31
theorem hx_P.c {k k2 m m2 : hm_M} {nc : Nat} (P : hx_P k m nc) (hk : ∀ j, 100 ≤ j → k2 j = k j) (h : m2 14 = m 14) : hx_P k2 m2 nc := fun c hc i hi => by
  rw [hk _ (by omega), h]
  exact P c hc i hi
theorem hx_L.c {k k2 m m2 : hm_M} {ad : hm_AD} (Lw : hx_L k ad m) (hq : ∀ i, i < 5 → ad 0 i < 5) (hk : ∀ j, 60 ≤ j → j < 80 → k2 j = k j) (h : m2 4 = m 4) : hx_L k2 ad m2 := fun f hf t ht i hi => by
  have := hq f (by omega)
  rw [hk _ (by omega) (by omega), h]
  exact Lw f hf t ht i hi
theorem hr_C.c {m m2 : hm_M} {nc nb : Nat} (C : hr_C m nc nb) (h3 : m2 3 = m 3) (h12 : m2 12 = m 12) (h13 : m2 13 = m 13) : hr_C m2 nc nb := by
  unfold hr_C
  rw [h3, h12, h13]
  exact C
theorem hw_Z.c {m m2 : hm_M} {nc np nb : Nat} (Z : hw_Z m nc np nb) (h : ∀ j, j = 9 ∨ j = 18 ∨ j = 2 ∨ j = 7 ∨ j = 6 ∨ j = 16 → m2 j = m j) : hw_Z m2 nc np nb := by
  unfold hw_Z
  rw [h 9 (by decide), h 18 (by decide), h 2 (by decide), h 7 (by decide), h 6 (by decide), h 16 (by decide)]
  exact Z
theorem hw_B.c {m m2 : hm_M} (B : hw_B m) (h : m2 4 = m 4) : hw_B m2 := by
  unfold hw_B
  rw [h]
  exact B
theorem hw_A.c {m m2 : hm_M} {nc : Nat} (A : hw_A m nc) (h10 : m2 10 = m 10) (h11 : m2 11 = m 11) (h14 : m2 14 = m 14) : hw_A m2 nc := by
  unfold hw_A
  rw [h10, h11, h14]
  exact A
theorem hw_Y.c {k k2 m m2 : hm_M} {nc np : Nat} (Y : hw_Y k m nc np) (hk : ∀ j, j = 32 ∨ j = 33 ∨ j = 34 → k2 j = k j) (hm : ∀ j, j = 16 ∨ j = 21 ∨ j = 22 → m2 j = m j) : hw_Y k2 m2 nc np := by
  unfold hw_Y
  rw [hk 32 (by decide), hk 33 (by decide), hk 34 (by decide), hm 16 (by decide), hm 21 (by decide), hm 22 (by decide)]
  exact Y
theorem hw_R.c {k k2 m m2 : hm_M} {ad : hm_AD} {nc np nb : Nat} (R : hw_R k ad m nc np nb) (hq : ∀ i, i < 5 → ad 0 i < 5) (E : hw_E k2 m2) (hk : ∀ j, (31 ≤ j ∧ j ≤ 34) ∨ (40 ≤ j ∧ j ≤ 45) ∨ (60 ≤ j ∧ j < 80) ∨ 100 ≤ j → k2 j = k j) (hm : ∀ j, (j < 19 ∨ j = 21 ∨ j = 22) ∧ ¬ j = 1 ∧ ¬ j = 5 ∧ ¬ j = 8 ∧ ¬ j = 17 → m2 j = m j) : hw_R k2 ad m2 nc np nb := by
  obtain ⟨_, U, P, Lw, C, Z, B, A, Y⟩ := R
  refine ⟨E, U.c (fun j hj => hk j (by omega)) (hm 15 (by decide)) (hm 3 (by decide)) (hm 12 (by decide)) (hm 13 (by decide)) ?_, P.c (fun j hj => hk j (by omega)) (hm 14 (by decide)), Lw.c hq (fun j h1 h2 => hk j (by omega)) (hm 4 (by decide)), C.c (hm 3 (by decide)) (hm 12 (by decide)) (hm 13 (by decide)), Z.c (fun j hj => hm j (by omega)), B.c (hm 4 (by decide)), A.c (hm 10 (by decide)) (hm 11 (by decide)) (hm 14 (by decide)), Y.c (fun j hj => hk j (by omega)) (fun j hj => hm j (by omega))⟩
  rw [hm 0 (by decide)]
  exact U.2.2.2.1
theorem hw_R.sc {k k2 m : hm_M} {ad : hm_AD} {nc np nb : Nat} (R : hw_R k ad m nc np nb) (hq : ∀ i, i < 5 → ad 0 i < 5) (hs : hc_sc k k2) (S : hm_M) : hw_R k2 ad (hm_x m S) nc np nb :=
  R.c hq (R.1.c (fun j h1 _ => hs j (by omega)) (fun j h1 _ => if_pos (by omega))) (fun j hj => hs j (by omega)) (fun j hj => if_pos (by omega))
theorem hw_R.E {k m : hm_M} {ad : hm_AD} {nc np nb : Nat} (R : hw_R k ad m nc np nb) : hw_E k m := R.1
theorem hw_R.U {k m : hm_M} {ad : hm_AD} {nc np nb : Nat} (R : hw_R k ad m nc np nb) : hr_U k m nc nb := R.2.1
theorem hw_R.P {k m : hm_M} {ad : hm_AD} {nc np nb : Nat} (R : hw_R k ad m nc np nb) : hx_P k m nc := R.2.2.1
theorem hw_R.L {k m : hm_M} {ad : hm_AD} {nc np nb : Nat} (R : hw_R k ad m nc np nb) : hx_L k ad m := R.2.2.2.1
theorem hw_R.C {k m : hm_M} {ad : hm_AD} {nc np nb : Nat} (R : hw_R k ad m nc np nb) : hr_C m nc nb := R.2.2.2.2.1
theorem hw_R.Z {k m : hm_M} {ad : hm_AD} {nc np nb : Nat} (R : hw_R k ad m nc np nb) : hw_Z m nc np nb := R.2.2.2.2.2.1
theorem hw_R.B {k m : hm_M} {ad : hm_AD} {nc np nb : Nat} (R : hw_R k ad m nc np nb) : hw_B m := R.2.2.2.2.2.2.1
theorem hw_R.A {k m : hm_M} {ad : hm_AD} {nc np nb : Nat} (R : hw_R k ad m nc np nb) : hw_A m nc := R.2.2.2.2.2.2.2.1
theorem hw_R.Y {k m : hm_M} {ad : hm_AD} {nc np nb : Nat} (R : hw_R k ad m nc np nb) : hw_Y k m nc np := R.2.2.2.2.2.2.2.2
/-! the heap of both -/
def hw_h (L : Nat) (xs : Nat → Int32) (m : hm_M) (h : Nat → Option va_E) : Prop := h 0 = some (.inl (100, L, .inl xs)) ∧ ∀ j, 61 ≤ j → j < 84 → h j = (hm_cM m)[j - 61]?
def hw_n (n s nc np : Nat) : Prop := 80 ≤ n ∧ n ≤ 80 + 4 * nc + 2 * np ∧ s ≤ 20000 + 60 * nc + 50 * np
def hw_S (L : Nat) (xs : Nat → Int32) (hp : hm_H) : Prop := ∃ (k : hm_M) (ad : hm_AD) (w : hm_W) (g : Nat → Nat × Nat) (nc np nb : Nat) (m : hm_M) (h : Nat → Option va_E) (n s : Nat), hp = hm_hC k ad w h n s ∧ hw_h L xs m h ∧ hm_D k ad g nc np n h ∧ hw_R k ad m nc np nb ∧ hw_n n s nc np
theorem hw_h.lo {L : Nat} {xs : Nat → Int32} {m : hm_M} {h h2 : Nat → Option va_E} (H : hw_h L xs m h) (hl : hm_lo h h2) : hw_h L xs m h2 := ⟨(hl 0 (by decide)).trans H.1, fun j h1 h3 => (hl j h3).trans (H.2 j h1 h3)⟩
theorem hw_lenC {k : hm_M} {ad : hm_AD} {w : hm_W} : (hm_cC k ad w).length = 57 := rfl
theorem hw_lenM {m : hm_M} : (hm_cM m).length = 23 := rfl
theorem hw_toM {L : Nat} {xs : Nat → Int32} {k m : hm_M} {ad : hm_AD} {w : hm_W} {h : Nat → Option va_E} {n s : Nat} (H : hw_h L xs m h) : hm_hC k ad w h n s = hm_hM m (hm_seg 4 (hm_cC k ad w) h) n s := by
  refine Prod.ext (funext fun j => ?_) rfl
  show hm_seg 4 (hm_cC k ad w) h j = hm_seg 61 (hm_cM m) (hm_seg 4 (hm_cC k ad w) h) j
  by_cases hj : 61 ≤ j ∧ j < 84
  · have e : hm_seg 61 (hm_cM m) (hm_seg 4 (hm_cC k ad w) h) j = (hm_cM m)[j - 61]? := if_pos ⟨hj.1, by rw [hw_lenM]; omega⟩
    rw [e, hm_seg_out (Or.inr (by rw [hw_lenC]; omega))]
    exact H.2 j hj.1 hj.2
  · exact (hm_seg_out (by rw [hw_lenM]; omega)).symm
theorem hw_D {k : hm_M} {ad : hm_AD} {g : Nat → Nat × Nat} {nc np n : Nat} {h h2 : Nat → Option va_E} (X : hm_D k ad g nc np n h) (he : ∀ j, j < 61 ∨ 84 ≤ j → h2 j = h j) : hm_D k ad g nc np n h2 := by
  refine ⟨fun j hj => ?_, X.inj, X.cs, X.pl, X.rg, X.nc, X.nc16, X.np, X.np16, X.l1, X.l2, X.p, X.pi, ?_, ?_, ?_, X.fa⟩
  · rw [he j (Or.inr (X.rg j hj).1)]
    exact X.at j hj
  · rw [he 1 (by decide)]; exact X.h1
  · rw [he 2 (by decide)]; exact X.h2
  · rw [he 3 (by decide)]; exact X.h3
theorem hw_fin0 {L : Nat} {xs : Nat → Int32} {k m : hm_M} {ad : hm_AD} {w : hm_W} {g : Nat → Nat × Nat} {nc np nb : Nat} {h : Nat → Option va_E} {n s : Nat} (H : h 0 = some (.inl (100, L, .inl xs))) (X : hm_D k ad g nc np n h) (R : hw_R k ad m nc np nb) (N : hw_n n s nc np) : hw_S L xs (hm_hM m (hm_seg 4 (hm_cC k ad w) h) n s) := by
  refine ⟨k, ad, w, g, nc, np, nb, m, hm_seg 61 (hm_cM m) h, n, s, ?_, ⟨?_, fun j h1 h2 => ?_⟩, hw_D X (fun j hj => hm_seg_out (by rw [hw_lenM]; omega)), R, N⟩
  · refine Prod.ext (funext fun j => ?_) rfl
    show hm_seg 61 (hm_cM m) (hm_seg 4 (hm_cC k ad w) h) j = hm_seg 4 (hm_cC k ad w) (hm_seg 61 (hm_cM m) h) j
    by_cases hj : 61 ≤ j ∧ j < 84
    · rw [hm_seg_out (a := 4) (Or.inr (by rw [hw_lenC]; omega))]
      exact (if_pos ⟨hj.1, by rw [hw_lenM]; omega⟩).trans (if_pos ⟨hj.1, by rw [hw_lenM]; omega⟩).symm
    · rw [hm_seg_out (a := 61) (by rw [hw_lenM]; omega)]
      by_cases h4 : 4 ≤ j ∧ j < 61
      · exact (if_pos ⟨h4.1, by rw [hw_lenC]; omega⟩).trans (if_pos ⟨h4.1, by rw [hw_lenC]; omega⟩).symm
      · rw [hm_seg_out (a := 4) (by rw [hw_lenC]; omega), hm_seg_out (a := 4) (by rw [hw_lenC]; omega), hm_seg_out (a := 61) (by rw [hw_lenM]; omega)]
  · rw [hm_seg_out (Or.inl (by decide))]
    exact H
  · exact if_pos ⟨h1, by rw [hw_lenM]; omega⟩
theorem hw_fin {L : Nat} {xs : Nat → Int32} {k m m0 : hm_M} {ad : hm_AD} {w : hm_W} {g : Nat → Nat × Nat} {nc np nb : Nat} {h : Nat → Option va_E} {n s : Nat} (H : hw_h L xs m0 h) (X : hm_D k ad g nc np n h) (R : hw_R k ad m nc np nb) (N : hw_n n s nc np) : hw_S L xs (hm_hM m (hm_seg 4 (hm_cC k ad w) h) n s) := hw_fin0 H.1 X R N
/-- what a call of the class must leave: the Model's call answers the same -/
def hw_K (L : Nat) (xs : Nat → Int32) (M e : Nat) (ls : List Value) (Q : Option Value → hm_H → Prop) : Prop := ∀ (v : Int32) (hp : hm_H) (fs : List Value), hp.1 0 = some (.inl (100, L, .inl xs)) → hp.1 61 = some (.inr (8, fs)) → hm_T e M 0 ls [] hp (fun r hp2 => r = some (.int v) ∧ hw_S L xs hp2) → Q (some (.int v)) hp
theorem hw_go {L M e : Nat} {xs : Nat → Int32} {ls : List Value} {Q : Option Value → hm_H → Prop} (K : hw_K L xs M e ls Q) {k m : hm_M} {ad : hm_AD} {w : hm_W} {h : Nat → Option va_E} {n s : Nat} {v : Int32} (H : hw_h L xs m h) (hM : hm_T e M 0 ls [] (hm_hM m (hm_seg 4 (hm_cC k ad w) h) n s) (fun r hp2 => r = some (.int v) ∧ hw_S L xs hp2)) : Q (some (.int v)) (hm_hC k ad w h n s) := by
  refine K v _ (hm_mF m) ?_ ?_ ?_
  · show hm_seg 4 (hm_cC k ad w) h 0 = _
    rw [hm_seg_out (Or.inl (by decide))]
    exact H.1
  · show hm_seg 4 (hm_cC k ad w) h 61 = _
    rw [hm_seg_out (Or.inr (by rw [hw_lenC]; decide))]
    exact H.2 61 (by decide) (by decide)
  · rw [hw_toM H]
    exact hM
theorem hw_S.at {L : Nat} {xs : Nat → Int32} {hp : hm_H} (S : hw_S L xs hp) : hp.1 0 = some (.inl (100, L, .inl xs)) ∧ ∃ fs, hp.1 4 = some (.inr (7, fs)) := by
  obtain ⟨k, ad, w, g, nc, np, nb, m, h, n, s, rfl, H, X, R, N⟩ := S
  refine ⟨?_, _, rfl⟩
  show hm_seg 4 (hm_cC k ad w) h 0 = _
  rw [hm_seg_out (Or.inl (by decide))]
  exact H.1
theorem hw_S.room {L : Nat} {xs : Nat → Int32} {hp : hm_H} (S : hw_S L xs hp) : hp.2.1 ≤ 600000 ∧ hp.2.2 ≤ 7302250 := by
  obtain ⟨k, ad, w, g, nc, np, nb, m, h, n, s, rfl, H, X, R, N⟩ := S
  have h1 := X.nc16
  have h2 := X.np16
  obtain ⟨n1, n2, n3⟩ := N
  show n ≤ 600000 ∧ s ≤ 7302250
  omega
