/-! WHAT BOTH SIDES' SEARCHES ASK FOR -/
theorem hw_wl_len {k m : hm_M} {nc hh : Nat} (hH : hx_H k m nc) : ∀ c, c ≤ nc → (hc_wl k (nI hh) c).length ≤ hm_cnt (fun j => decide (m 15 j = nI hh)) (4 * c) := by
  intro c
  induction c with
  | zero => intro _; exact Nat.le_refl _
  | succ c ih =>
    intro hc
    have i := ih (by omega)
    have e : hm_cnt (fun j => decide (m 15 j = nI hh)) (4 * (c + 1)) = hm_cnt (fun j => decide (m 15 j = nI hh)) (4 * c) + (if decide (m 15 (4 * c + 0) = nI hh) = true then 1 else 0) + (if decide (m 15 (4 * c + 1) = nI hh) = true then 1 else 0) + (if decide (m 15 (4 * c + 2) = nI hh) = true then 1 else 0) + (if decide (m 15 (4 * c + 3) = nI hh) = true then 1 else 0) := rfl
    rw [e]
    show (if hc_car k (nI hh) c = true then hc_wl k (nI hh) c ++ [c] else hc_wl k (nI hh) c).length ≤ _
    by_cases h : hc_car k (nI hh) c = true
    · rw [if_pos h, List.length_append]
      unfold hc_car at h
      rw [decide_eq_true_iff, hH c (by omega) 1 (by decide), hH c (by omega) 3 (by decide)] at h
      show _ + 1 ≤ _
      rcases h with h | h
      · rw [decide_eq_true h, if_pos rfl]
        omega
      · rw [decide_eq_true h, if_pos rfl]
        omega
    · rw [if_neg h]
      omega
theorem hw_tl_len {m : hm_M} {hour : Int32} : ∀ j, (hm_tl m hour j).length ≤ hm_cnt (fun i => decide (m 15 i = hour)) j := by
  intro j
  induction j with
  | zero => exact Nat.le_refl _
  | succ j ih =>
    show (if (j % 4 = 1 ∨ j % 4 = 3) ∧ m 15 j = hour ∧ ¬ m 12 (j / 4) ≤ 0 then hm_tl m hour j ++ [j] else hm_tl m hour j).length ≤ hm_cnt (fun i => decide (m 15 i = hour)) j + (if decide (m 15 j = hour) = true then 1 else 0)
    by_cases h : (j % 4 = 1 ∨ j % 4 = 3) ∧ m 15 j = hour ∧ ¬ m 12 (j / 4) ≤ 0
    · rw [if_pos h, List.length_append, decide_eq_true h.2.1, if_pos rfl]
      show _ + 1 ≤ _
      omega
    · rw [if_neg h]
      omega
theorem hw_R.I {k m : hm_M} {ad : hm_AD} {nc np nb : Nat} (R : hw_R k ad m nc np nb) (hnc : nc ≤ 16) : hc_I k nc nb := by
  obtain ⟨E, U, P, Lw, C, Z, B, A, Y⟩ := R
  obtain ⟨hH, hv, hd, ⟨c0, a0, b0, e0⟩, hR, hS, h31⟩ := U
  have hl : ∀ hh, hh < 400 → (hc_wl k (nI hh) nc).length ≤ hm_cnt (fun j => decide (m 15 j = nI hh)) (4 * nc) := fun hh _ => hw_wl_len hH nc (Nat.le_refl _)
  refine ⟨(E.2 2 rfl).trans Z.2.2.2.2.1, C.1, fun c hc => ?_, fun c hc t ht => ?_, fun hh h4 hlt => ?_, fun hh h4 => ?_⟩
  · rw [E.1 12 rfl]
    exact C.2.2.1 c hc
  · rw [hH c hc t ht]
    exact hv _ (by omega)
  · have h1 := hl hh h4
    have h2 := hm_cnt_len (fun j => decide (m 15 j = nI hh)) (4 * nc)
    rw [(hR hh h4).1, E.1 0 rfl, a0, nI_ltI (by omega) (by omega)] at hlt
    omega
  · have h1 := hl hh h4
    have h2 := e0 hh h4
    omega
theorem hw_R.G {k m : hm_M} {ad : hm_AD} {nc np nb : Nat} (R : hw_R k ad m nc np nb) (hnc : nc ≤ 16) : hm_G m nc nb (hr_F m nc nb) := by
  obtain ⟨E, U, P, Lw, C, Z, B, A, Y⟩ := R
  obtain ⟨hH, hv, hd, ⟨c0, a0, b0, e0⟩, hR, hS, h31⟩ := U
  refine ⟨Z.1, hnc, fun c hc => (A c hc).1, C.1, Z.2.2.2.2.1, fun c => ?_, fun c hc hn => ?_, fun c t hh hc ht h4 hlt => ?_, fun hour h0 => ?_, fun c hc => ?_, fun i hi hl => (hm_hv_neg (hv i hi)).mp hl⟩
  · unfold hr_F
    by_cases hc : c < nc
    · rw [if_pos hc]
      obtain ⟨dd, h1, h2⟩ := C.2.2.1 c hc
      refine hx_LL_len ?_ C.1
      rw [h1, nI_clamp (by omega)]
      exact h2
    · rw [if_neg hc]
      exact Nat.zero_le _
  · obtain ⟨dd, h1, h2⟩ := C.2.2.1 c hc
    refine ⟨dd, h1, h2, ?_⟩
    rw [hr_F_lt hc, h1, nI_clamp (by omega)]
    exact hx_LL_ok _ _ _ _
  · have h1 := hw_tl_len (m := hm_hr m c t hh) (hour := nI hh) (4 * nc)
    have h2 := hr_cnt1 (P := fun j => decide (m 15 j = nI hh)) (P2 := fun j => decide (hm_hr m c t hh 15 j = nI hh)) (c := 4 * c + t) (4 * nc) (by omega) (fun x _ hx => by
      show decide (hm_hr m c t hh 15 x = nI hh) = _
      rw [show hm_hr m c t hh 15 x = m 15 x from if_neg hx])
    have h3 := e0 hh h4
    split at h2 <;> split at h2 <;> omega
  · have h1 := hw_tl_len (m := m) (hour := hour) (4 * nc)
    by_cases h4 : hour.toInt < 400
    · obtain ⟨hh, h5, rfl, _⟩ := hm_nIof (x := hour) (N := 400) (by have := Int32.le_iff_toInt_le.mp h0; exact this) h4
      have h3 := e0 hh h5
      omega
    · have h2 : hm_cnt (fun i => decide (m 15 i = hour)) (4 * nc) ≤ 0 := hm_cnt_top (b := 0) (4 * nc) (fun i _ hi => decide_eq_false (fun z => by
        rcases hv i hi with h6 | ⟨hh, h6, h7⟩
        · rw [← z, h6] at h4
          exact h4 (by decide)
        · rw [← z, h7, nI_toInt (by omega)] at h4
          omega))
      omega
  · obtain ⟨e, h1, _, h2⟩ := hr_re (hv (4 * c + 2) (by omega)) (hv (4 * c + 3) (by omega))
    rw [Int32.lt_iff_toInt_lt, h2, nI_toInt (by omega)]
    omega
theorem hw_hin {m : hm_M} {f c t : Nat} {hour : Int32} : ∃ j, j ≤ 6 ∧ hm_hin m f c t hour = nI j := by
  unfold hm_hin
  split
  · split
    · split
      · split
        · split
          · exact ⟨0, by decide, rfl⟩
          · exact ⟨6, by decide, rfl⟩
        · exact ⟨5, by decide, rfl⟩
      · exact ⟨4, by decide, rfl⟩
    · exact ⟨3, by decide, rfl⟩
  · exact ⟨2, by decide, rfl⟩
theorem hw_le0 {j : Nat} (h : j < 2 ^ 31) : nI j ≤ 0 ↔ nI j = 0 := by
  constructor
  · intro z
    have h1 := (hx_leI (a := j) (b := 0) h (by omega)).mp z
    rw [show j = 0 by omega]
    rfl
  · intro z
    rw [z]
    exact Int32.le_refl _
theorem hw_rmx {P : Nat → Bool} {e : Int32} {E : Nat} (hE : e.toInt = (E : Int) - 1) : ∀ (j i : Nat) (b : Bool), i + j ≤ 400 → (hm_rmx P e j i b = true ↔ (b = true ∨ ∃ x, i ≤ x ∧ x < i + j ∧ x < E ∧ P x = true)) := by
  intro j
  induction j with
  | zero =>
    intro i b _
    exact ⟨fun z => Or.inl z, fun z => z.elim id (fun ⟨x, h1, h2, _⟩ => by omega)⟩
  | succ j ih =>
    intro i b hij
    show (if e < nI i then b else hm_rmx P e j (i + 1) (b || P i)) = true ↔ _
    have hlt : e < nI i ↔ E ≤ i := by
      rw [Int32.lt_iff_toInt_lt, hE, nI_toInt (by omega)]
      omega
    by_cases h : e < nI i
    · rw [if_pos h]
      have h2 := hlt.mp h
      exact ⟨fun z => Or.inl z, fun z => z.elim id (fun ⟨x, h1, _, h3, _⟩ => by omega)⟩
    · rw [if_neg h, ih (i + 1) _ (by omega), Bool.or_eq_true]
      have h2 : i < E := by
        have : ¬ E ≤ i := fun z => h (hlt.mpr z)
        omega
      constructor
      · rintro ((h3 | h3) | ⟨x, h3, h4, h5, h6⟩)
        · exact Or.inl h3
        · exact Or.inr ⟨i, by omega, by omega, h2, h3⟩
        · exact Or.inr ⟨x, by omega, by omega, h5, h6⟩
      · rintro (h3 | ⟨x, h3, h4, h5, h6⟩)
        · exact Or.inl (Or.inl h3)
        · by_cases hx : x = i
          · rw [hx] at h6; exact Or.inl (Or.inr h6)
          · exact Or.inr ⟨x, by omega, by omega, h5, h6⟩
theorem hw_pl {k m : hm_M} {nc c t hh : Nat} (hR : hr_rows k m nc) (hH : hx_H k m nc) (hv : ∀ j, j < 4 * nc → hm_hv (m 15 j)) (h0 : k 0 = m 0) (h1 : k 1 = m 1) (hc : c < nc) (ht : t < 4) (h4 : hh < 400) : hc_pl k c hh t = !hm_plm m nc c hh t := by
  match t, ht with
  | 0, _ =>
    show hm_all (fun i => decide (k 43 i < k 0 2)) ((hm_ren (k (100 + 2 * c) 2) (k (100 + 2 * c) 3)).toNatClampNeg - hh) hh = !hm_rmx (hm_prm m nc) (hm_re (m 15 (4 * c + 2)) (m 15 (4 * c + 3))) (400 - hh) hh false
    obtain ⟨E, e1, e2, e3⟩ := hr_re (hv (4 * c + 2) (by omega)) (hv (4 * c + 3) (by omega))
    rw [hH c hc 2 (by decide), hH c hc 3 (by decide), e2, nI_clamp (by omega)]
    have hx := hw_rmx (P := hm_prm m nc) e3 (400 - hh) hh false (by omega)
    have hp : ∀ x, x < 400 → (hm_prm m nc x = true ↔ ¬ k 43 x < k 0 2) := fun x hx => by
      unfold hm_prm
      rw [decide_eq_true_iff, (hR x hx).2.2.2.1, h0]
    cases ha : hm_all (fun i => decide (k 43 i < k 0 2)) (E - hh) hh with
    | true =>
      have h2 := (hm_all_iff _ _).mp ha
      cases hb : hm_rmx (hm_prm m nc) (hm_re (m 15 (4 * c + 2)) (m 15 (4 * c + 3))) (400 - hh) hh false with
      | false => rfl
      | true =>
        rcases hx.mp hb with h3 | ⟨x, h3, h5, h6, h7⟩
        · exact nomatch h3
        · exact absurd (of_decide_eq_true (h2 x h3 (by omega))) ((hp x (by omega)).mp h7)
    | false =>
      cases hb : hm_rmx (hm_prm m nc) (hm_re (m 15 (4 * c + 2)) (m 15 (4 * c + 3))) (400 - hh) hh false with
      | true => rfl
      | false =>
        have h2 : hm_all (fun i => decide (k 43 i < k 0 2)) (E - hh) hh = true := (hm_all_iff _ _).mpr (fun x h3 h5 => by
          by_cases h6 : k 43 x < k 0 2
          · exact decide_eq_true h6
          · have h7 := hx.mpr (Or.inr ⟨x, h3, by omega, by omega, (hp x (by omega)).mpr h6⟩)
            rw [hb] at h7
            exact nomatch h7)
        rw [ha] at h2
        exact nomatch h2
  | 1, _ =>
    show decide (k 41 hh < nI (hm_cnt (hm_opn k (nI hh)) 3)) = !decide (¬ nI (hm_cnt (fun c => decide (m 15 (4 * c + 1) = nI hh)) nc) < hm_sg (fun k => m 1 k >>> ((nI hh - nI hh / nI 10 * nI 10) &&& 31) &&& nI 1) 3)
    rw [hw_opn h1, (hR hh h4).2.1, decide_not, Bool.not_not]
  | 2, _ =>
    show decide (k 42 hh < k 0 1) = !decide (¬ nI (hm_cnt (fun c => decide (m 15 (4 * c + 2) = nI hh)) nc) < m 0 1)
    rw [(hR hh h4).2.2.1, h0, decide_not, Bool.not_not]
  | 3, _ => rfl
theorem hw_dd {m : hm_M} {nc hh : Nat} (hd : hr_dis m nc) (h4 : hh < 400) : ∀ c, c < nc → ¬ (m 15 (4 * c + 1) = nI hh ∧ m 15 (4 * c + 3) = nI hh) := fun c hc z => by
  have e := hd c hc 1 3 (by decide) (by decide) (by decide) (by rw [z.1, z.2])
  rw [z.1] at e
  exact hm_nIm hh (by omega) e
/-- MAY a step be promised: both sides -/
theorem hw_may {k m : hm_M} {ad : hm_AD} {nc np nb c t f hh : Nat} (R : hw_R k ad m nc np nb) (hnc : nc ≤ 16) (hc : c < nc) (ht : t < 4) (hf : f < 4) (hmf : m 10 c = nI f) (h4 : hh < 400) : hc_hi k (ad 0 f) nb nc c t hh = hm_may m (hr_F m nc nb) nc c t hh := by
  have I := R.I hnc
  obtain ⟨E, U, P, Lw, C, Z, B, A, Y⟩ := R
  obtain ⟨hH, hv, hd, ⟨c0, a0, b0, e0⟩, hR, hS, h31⟩ := U
  have hhv : ∀ t, t < 4 → hm_hv (m 15 (4 * c + t)) := fun t ht => hv _ (by omega)
  obtain ⟨_, ⟨d0, hd0, hd4⟩, hpv⟩ := A c hc
  unfold hc_hi hm_may
  rw [hH c hc t ht]
  by_cases n1 : m 15 (4 * c + t) = -1
  rotate_left
  · rw [if_neg n1, if_neg (fun z => n1 ((hm_hv_neg (hhv t ht)).mp z))]
  rw [if_pos n1, if_pos ((hm_hv_neg (hhv t ht)).mpr n1)]
  have eb := hx_hbl (ad := ad) (f := f) hc ht hf hH P Lw (by rw [E.1 11 rfl]) hd0 hd4 h4 (B f t hf ht).1 (B f t hf ht).2 hpv hhv
  have eh : hm_hn m c t (nI hh) = hm_hin m f c t (nI hh) := by
    unfold hm_hn
    rw [hmf, nI_clamp (by omega)]
  rw [eb, eh]
  obtain ⟨j, hj, ej⟩ := hw_hin (m := m) (f := f) (c := c) (t := t) (hour := nI hh)
  rw [ej]
  by_cases n2 : nI j = 0
  rotate_left
  · rw [if_neg n2, if_neg (fun z => n2 ((hw_le0 (by omega)).mp z))]
  rw [if_pos n2, if_pos ((hw_le0 (by omega)).mpr n2)]
  have eo := hx_hbo (ad := ad) (f := f) hc ht hf hmf hH Lw h4 hhv n1
  rw [eo]
  by_cases n3 : hm_wl m c t (nI hh) = true
  · rw [if_pos n3, if_pos n3]
    rfl
  rw [if_neg n3, if_neg n3]
  by_cases n4 : hm_oe m c t = true
  · rw [if_pos n4, if_pos n4]
    rfl
  rw [if_neg n4, if_neg n4]
  by_cases n5 : hm_bz m c (nI hh) = true
  · rw [if_pos n5, if_pos n5]
    rfl
  rw [if_neg n5, if_neg n5, if_pos (show nI 0 = (0 : Int32) from rfl)]
  have ec : k 40 hh = nI (hm_tkn m nc 0 hh) := by
    rw [hr_tkn]
    exact (hR hh h4).1
  rw [ec, E.1 0 rfl]
  by_cases n6 : nI (hm_tkn m nc 0 hh) < m 0 0
  rotate_left
  · rw [if_neg n6, if_neg n6]
  rw [if_pos n6, if_pos n6, hw_pl hR hH hv (E.1 0 rfl) (E.1 1 rfl) hc ht h4]
  cases n7 : hm_plm m nc c hh t with
  | true => rfl
  | false =>
    rw [if_pos (show (!false) = true from rfl), if_neg (show ¬ false = true by decide)]
    have etk : hm_tkb (nI t) = true ↔ (t = 1 ∨ t = 3) := by
      unfold hm_tkb
      rw [decide_eq_true_iff]
      exact ⟨fun z => z.elim (fun y => Or.inl (hm_nIinj y (by omega) (by omega))) (fun y => Or.inr (hm_nIinj y (by omega) (by omega))), fun z => z.elim (fun y => Or.inl (by rw [y])) (fun y => Or.inr (by rw [y]))⟩
    have hl := I.2.2.2.2.2 hh h4
    by_cases n8 : t = 1 ∨ t = 3
    · rw [if_pos (etk.mpr n8)]
      by_cases n9 : m 12 c ≤ 0
      · rw [if_neg (show ¬ ((t = 1 ∨ t = 3) ∧ ¬ m 12 c ≤ 0) from fun z => z.2 n9), hr_claim0 C (E.1 3 rfl) (E.1 12 rfl) (E.1 13 rfl) hc n9 (by omega) (hS hh h4), if_pos rfl]
      · rw [if_pos (show (t = 1 ∨ t = 3) ∧ ¬ m 12 c ≤ 0 from ⟨n8, n9⟩), hr_claim C (E.1 3 rfl) (E.1 12 rfl) (E.1 13 rfl) hH (hw_dd hd h4) hc n8 (by rw [n1]; exact fun z => hm_nIm hh (by omega) z.symm) n9 (by omega)]
    · rw [if_neg (fun z => n8 (etk.mp z)), if_neg (fun z => n8 z.1)]
theorem hw_mayv {m : hm_M} {LL : Nat → List Int32} {nc c t hh : Nat} : ∃ j, j ≤ 12 ∧ hm_may m LL nc c t hh = nI j := by
  unfold hm_may
  split
  · split
    · split
      · exact ⟨7, by decide, rfl⟩
      · split
        · exact ⟨8, by decide, rfl⟩
        · split
          · exact ⟨9, by decide, rfl⟩
          · split
            · split
              · exact ⟨11, by decide, rfl⟩
              · split
                · split
                  · exact ⟨0, by decide, rfl⟩
                  · exact ⟨12, by decide, rfl⟩
                · exact ⟨0, by decide, rfl⟩
            · exact ⟨10, by decide, rfl⟩
    · unfold hm_hn
      obtain ⟨j, h1, h2⟩ := hw_hin (m := m) (f := (m 10 c).toNatClampNeg) (c := c) (t := t) (hour := nI hh)
      exact ⟨j, by omega, h2⟩
  · exact ⟨1, by decide, rfl⟩
