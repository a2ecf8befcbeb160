/-! may, promise, earliest, promised -/
theorem t_may {d e L : Nat} {xs : Nat → Int32} {hp : hm_H} {Q : Option Value → hm_H → Prop} (S : hw_S L xs hp) {c t x : Int32} (K : hw_K L xs 149 (e + 5) [.ref 61, .int c, .int t, .int x] Q) : hm_T (d + 49) 76 0 [.ref 4, .int c, .int t, .int x, .retAddr 0] [] hp Q := by
  obtain ⟨k, ad, w, g, nc, np, nb, m, h, n, s, rfl, H, X, R, N⟩ := S
  have G := R.G X.nc16
  have hnc := X.nc16
  by_cases c1 : 0 ≤ c.toInt ∧ c.toInt < nc
  · obtain ⟨ck, hc, rfl, _, ec⟩ := hm_nIof2 c1.1 c1.2
    by_cases c2 : (0 ≤ t.toInt ∧ t.toInt ≤ 3) ∧ (0 ≤ x.toInt ∧ x.toInt ≤ 399)
    · obtain ⟨tk, ht, rfl, _, et⟩ := hm_nIof2 (N := 4) c2.1.1 (by have := c2.1.2; omega)
      obtain ⟨hh, h4, rfl, _, eh⟩ := hm_nIof2 (N := 400) c2.2.1 (by have := c2.2.2; omega)
      obtain ⟨⟨f, hmf, hf⟩, _⟩ := R.A ck hc
      refine s_76 X (R.I hnc) hc ht h4 hf (by rw [R.E.1 10 rfl]; exact hmf) (fun k2 w2 hs => ?_)
      refine hw_go K H (s_149 G (fun S2 => ⟨?_, hw_fin H (X.sc hs) (R.sc X.p hs S2) N⟩))
      unfold op_may
      rw [if_pos c1, if_pos c2.1, if_pos c2.2, ec, et, eh, hw_may R hnc hc ht hf hmf h4]
    · refine s_76_out X hc c2 (hw_go K H (s_149 G (fun S2 => ⟨?_, hw_fin H X (R.sc X.p (hc_sc.rfl2 k) S2) N⟩)))
      unfold op_may
      rw [if_pos c1]
      by_cases d1 : 0 ≤ t.toInt ∧ t.toInt ≤ 3
      · rw [if_pos d1, if_neg (fun d2 => c2 ⟨d1, d2⟩)]
      · rw [if_neg d1]
  · refine s_76_bad X c1 (hw_go K H (s_149 G (fun S2 => ⟨?_, hw_fin H X (R.sc X.p (hc_sc.rfl2 k) S2) N⟩)))
    unfold op_may
    rw [if_neg c1]
theorem hw_ea {k m : hm_M} {ad : hm_AD} {nc np nb c t f : Nat} (R : hw_R k ad m nc np nb) (hnc : nc ≤ 16) (hc : c < nc) (ht : t < 4) (hf : f < 4) (hmf : m 10 c = nI f) : ∀ j i, i + j = 400 → hc_ea k (ad 0 f) nb nc c t j i = hm_ea m (hr_F m nc nb) nc c t j i := by
  intro j
  induction j with
  | zero => intro i _; rfl
  | succ j ih =>
    intro i hi
    show (if hc_hi k (ad 0 f) nb nc c t i = 0 then nI i else hc_ea k (ad 0 f) nb nc c t j (i + 1)) = (if hm_may m (hr_F m nc nb) nc c t i = 0 then nI i else hm_ea m (hr_F m nc nb) nc c t j (i + 1))
    rw [hw_may R hnc hc ht hf hmf (by omega), ih (i + 1) (by omega)]
theorem t_earliest {d e L : Nat} {xs : Nat → Int32} {hp : hm_H} {Q : Option Value → hm_H → Prop} (S : hw_S L xs hp) {c t x : Int32} (K : hw_K L xs 157 (e + 5) [.ref 61, .int c, .int t, .int x, .retAddr 0] Q) : hm_T (d + 49) 96 0 [.ref 4, .int c, .int t, .int x, .retAddr 0, .retAddr 0] [] hp Q := by
  obtain ⟨k, ad, w, g, nc, np, nb, m, h, n, s, rfl, H, X, R, N⟩ := S
  have G := R.G X.nc16
  have hnc := X.nc16
  by_cases c1 : 0 ≤ c.toInt ∧ c.toInt < nc
  · obtain ⟨ck, hc, rfl, _, ec⟩ := hm_nIof2 c1.1 c1.2
    by_cases c2 : (0 ≤ t.toInt ∧ t.toInt ≤ 3) ∧ (0 ≤ x.toInt ∧ x.toInt ≤ 399)
    · obtain ⟨tk, ht, rfl, _, et⟩ := hm_nIof2 (N := 4) c2.1.1 (by have := c2.1.2; omega)
      obtain ⟨hh, h4, rfl, _, eh⟩ := hm_nIof2 (N := 400) c2.2.1 (by have := c2.2.2; omega)
      obtain ⟨⟨f, hmf, hf⟩, _⟩ := R.A ck hc
      refine s_96 X (R.I hnc) hc ht h4 hf (by rw [R.E.1 10 rfl]; exact hmf) (fun k2 w2 hs => ?_)
      refine hw_go K H (s_157 G (fun S2 => ⟨?_, hw_fin H (X.sc hs) (R.sc X.p hs S2) N⟩))
      unfold op_earliest
      rw [if_pos c1, if_pos c2.1, if_pos c2.2, ec, et, eh, hw_ea R hnc hc ht hf hmf _ _ (by omega)]
    · refine s_96_out X hc c2 (hw_go K H (s_157 G (fun S2 => ⟨?_, hw_fin H X (R.sc X.p (hc_sc.rfl2 k) S2) N⟩)))
      unfold op_earliest
      rw [if_pos c1]
      by_cases d1 : 0 ≤ t.toInt ∧ t.toInt ≤ 3
      · rw [if_pos d1, if_neg (fun d2 => c2 ⟨d1, d2⟩)]
      · rw [if_neg d1]
  · refine s_96_bad X c1 (hw_go K H (s_157 G (fun S2 => ⟨?_, hw_fin H X (R.sc X.p (hc_sc.rfl2 k) S2) N⟩)))
    unfold op_earliest
    rw [if_neg c1]
theorem hw_pmd {k m : hm_M} {ad : hm_AD} {nc np nb c t w : Nat} (R : hw_R k ad m nc np nb) (hnc : nc ≤ 16) (hc : c < nc) (ht : t < 4) (hw3 : w < 3) : hc_pmd k nb nc c t (nI w) = hm_pmd m (hr_F m nc nb) nc c t w := by
  have I := R.I hnc
  obtain ⟨E, U, P, Lw, C, Z, B, A, Y⟩ := R
  obtain ⟨hH, hv, hd, ⟨c0, a0, b0, e0⟩, hR, hS, h31⟩ := U
  unfold hc_pmd hm_pmd
  rw [nI_toInt (by omega)]
  have hn := hm_hv_neg (hv (4 * c + t) (by omega))
  match w, hw3 with
  | 0, _ =>
    rw [if_pos (by decide), if_pos rfl]
    exact hH c hc t ht
  | 1, _ =>
    rw [if_neg (show ¬ ((1 : Nat) : Int) = 0 by decide), if_pos (show ((1 : Nat) : Int) = 1 by decide), if_neg (show ¬ (1 : Nat) = 0 by decide), if_pos (show (1 : Nat) = 1 from rfl), if_neg (show ¬ (1 : Nat) = 2 by decide)]
    by_cases t1 : t = 1
    · subst t1
      rw [if_pos rfl, if_pos rfl, hH c hc 1 (by decide)]
      by_cases z : m 15 (4 * c + 1) = -1
      · rw [if_pos z, if_neg (Int32.not_le.mpr (hn.mpr z)), z]
      · rw [if_neg z, if_pos (Int32.not_lt.mp (fun y => z (hn.mp y)))]
        have e1 : hm_opn k (m 15 (4 * c + 1)) = hm_opn m (m 15 (4 * c + 1)) := by
          unfold hm_opn
          rw [E.1 1 rfl]
        have e2 : hm_cnt (fun i => decide (k (100 + 2 * i) 1 = m 15 (4 * c + 1))) c = hm_cnt (fun i => decide (m 15 (4 * i + 1) = m 15 (4 * c + 1))) c := hr_cnt_c c (fun x hx => by rw [hH x (by omega) 1 (by decide)])
        rw [e1, e2]
    · rw [if_neg t1, if_neg t1]
      by_cases z : m 15 (4 * c + t) = -1
      · rw [if_neg (Int32.not_le.mpr (hn.mpr z)), z]
      · rw [if_pos (Int32.not_lt.mp (fun y => z (hn.mp y)))]
  | 2, _ =>
    rw [if_neg (by decide), if_neg (by decide), if_pos (by decide), if_neg (show ¬ (2 : Nat) = 0 by decide), if_neg (show ¬ (2 : Nat) = 1 by decide), if_pos rfl, hH c hc t ht]
    by_cases z : m 15 (4 * c + t) = -1
    · rw [if_pos z, if_neg (Int32.not_le.mpr (hn.mpr z))]
      split <;> rfl
    · rw [if_neg z, if_pos (Int32.not_lt.mp (fun y => z (hn.mp y)))]
      by_cases t13 : t = 1 ∨ t = 3
      · rw [if_pos t13, if_pos t13]
        rcases hv (4 * c + t) (by omega) with h1 | ⟨hh, h4, h1⟩
        · exact absurd h1 z
        · have hl := I.2.2.2.2.2 hh h4
          rw [h1]
          exact hr_bof C (E.1 3 rfl) (E.1 12 rfl) (E.1 13 rfl) hH (hw_dd hd h4) hc t13 h1 (by omega)
      · rw [if_neg t13, if_neg t13]
theorem t_promised {d e L : Nat} {xs : Nat → Int32} {hp : hm_H} {Q : Option Value → hm_H → Prop} (S : hw_S L xs hp) {c t x : Int32} (K : hw_K L xs 159 (e + 3) [.ref 61, .int c, .int t, .int x, .retAddr 0] Q) : hm_T (d + 49) 98 0 [.ref 4, .int c, .int t, .int x, .retAddr 0] [] hp Q := by
  obtain ⟨k, ad, w, g, nc, np, nb, m, h, n, s, rfl, H, X, R, N⟩ := S
  have G := R.G X.nc16
  have hnc := X.nc16
  by_cases c1 : 0 ≤ c.toInt ∧ c.toInt < nc
  · obtain ⟨ck, hc, rfl, _, ec⟩ := hm_nIof2 c1.1 c1.2
    by_cases c2 : 0 ≤ t.toInt ∧ t.toInt ≤ 3
    · obtain ⟨tk, ht, rfl, _, et⟩ := hm_nIof2 (N := 4) c2.1 (by have := c2.2; omega)
      refine s_98 X (R.I hnc) hc ht (fun k2 w2 hs => ?_)
      refine hw_go K H (s_159 G (fun S2 => ⟨?_, hw_fin H (X.sc hs) (R.sc X.p hs S2) N⟩))
      unfold op_promised
      rw [if_pos c1, if_pos c2]
      by_cases c3 : 0 ≤ x.toInt ∧ x.toInt ≤ 2
      · obtain ⟨wk, hw3, rfl, _, ew⟩ := hm_nIof2 (N := 3) c3.1 (by have := c3.2; omega)
        rw [if_pos c3, ec, et, ew, hw_pmd R hnc hc ht hw3]
      · rw [if_neg c3]
        unfold hc_pmd
        rw [if_neg (by omega), if_neg (by omega), if_neg (by omega)]
    · refine s_98_out X hc c2 (hw_go K H (s_159 G (fun S2 => ⟨?_, hw_fin H X (R.sc X.p (hc_sc.rfl2 k) S2) N⟩)))
      unfold op_promised
      rw [if_pos c1, if_neg c2]
  · refine s_98_bad X c1 (hw_go K H (s_159 G (fun S2 => ⟨?_, hw_fin H X (R.sc X.p (hc_sc.rfl2 k) S2) N⟩)))
    unfold op_promised
    rw [if_neg c1]
/-- what a promise that may be made rests on -/
theorem hw_hi0 {k : hm_M} {q nb nc c t hh : Nat} (h : hc_hi k q nb nc c t hh = 0) : k (100 + 2 * c) t = -1 ∧ hm_hbo k c q t (nI hh) = 0 ∧ k 40 hh < k 0 0 ∧ (hm_tkb (nI t) = true → (hc_V k nb (hc_wl k (nI hh) nc ++ [c])).isSome = true) := by
  unfold hc_hi at h
  by_cases a1 : k (100 + 2 * c) t = -1
  · rw [if_pos a1] at h
    by_cases a2 : hm_hbl k c q t (nI hh) = 0
    · rw [if_pos a2] at h
      by_cases a3 : hm_hbo k c q t (nI hh) = 0
      · rw [if_pos a3] at h
        by_cases a4 : k 40 hh < k 0 0
        · rw [if_pos a4] at h
          refine ⟨a1, a3, a4, fun a6 => ?_⟩
          by_cases a5 : hc_pl k c hh t = true
          · rw [if_pos a5, if_pos a6] at h
            by_cases a7 : (hc_V k nb (hc_wl k (nI hh) nc ++ [c])).isSome = true
            · exact a7
            · rw [if_neg a7] at h
              exact absurd h (by decide)
          · rw [if_neg a5] at h
            exact absurd h (by decide)
        · rw [if_neg a4] at h
          exact absurd h (by decide)
      · rw [if_neg a3] at h
        exact absurd h a3
    · rw [if_neg a2] at h
      exact absurd h a2
  · rw [if_neg a1] at h
    exact absurd h (by decide)
theorem hw_bk {k m : hm_M} {ad : hm_AD} {nc np nb c t f hh : Nat} (R : hw_R k ad m nc np nb) (hq : ∀ i, i < 5 → ad 0 i < 5) (hnc : nc ≤ 16) (hc : c < nc) (ht : t < 4) (h4 : hh < 400) (h : hc_hi k (ad 0 f) nb nc c t hh = 0) : hw_R (hc_bk k c t hh) ad (hr_set m c t (nI hh)) nc np nb := by
  have I := R.I hnc
  obtain ⟨a1, a2, a3, a4⟩ := hw_hi0 h
  obtain ⟨E, U, P, Lw, C, Z, B, A, Y⟩ := R
  have o : ∀ j, ¬ j = 31 → (j < 40 ∨ 45 < j) → ¬ j = 100 + 2 * c → hc_bk k c t hh j = k j := fun j b1 b2 b3 => hc_bk_o b1 b2 b3
  have mo : ∀ j, ¬ j = 15 → hr_set m c t (nI hh) j = m j := fun j hj => hm_uMo _ _ hj
  have hx : m 15 (4 * c + t) = -1 := by
    rw [← U.1 c hc t ht]
    exact a1
  have hno : ∀ u, u < 4 → ¬ m 15 (4 * c + u) = nI hh := fun u hu z => by
    unfold hm_hbo at a2
    by_cases b1 : hm_all (hm_ctl k c (ad 0 f) (nI t) (nI hh)) 4 0 = true
    · rw [if_pos b1] at a2
      by_cases b2 : (t = 2 ∧ ¬ k (100 + 2 * c) 3 = -1) ∨ (t = 3 ∧ ¬ k (100 + 2 * c) 2 = -1)
      · rw [if_pos b2] at a2
        exact absurd a2 (by decide)
      · rw [if_neg b2] at a2
        by_cases b3 : hm_all (hm_hos (k (100 + 2 * c)) t (nI hh)) 4 0 = true
        · have b4 := (hm_all_iff 4 0).mp b3 u (by omega) (by omega)
          unfold hm_hos at b4
          rw [U.1 c hc u hu, z, decide_eq_true rfl, Bool.not_true, Bool.or_false] at b4
          rw [of_decide_eq_true b4, hx] at z
          exact hm_nIm hh (by omega) z.symm
        · rw [if_neg b3] at a2
          exact absurd a2 (by decide)
    · rw [if_neg b1] at a2
      exact absurd a2 (by decide)
  have hcar : nI (hm_tkn m nc 0 hh) < m 0 0 := by
    rw [hr_tkn, ← (U.2.2.2.2.1 hh h4).1, ← E.1 0 rfl]
    exact a3
  have hsat : (t = 1 ∨ t = 3) → hx_sat ((hc_wl k (nI hh) nc ++ [c]).map (hr_F m nc nb)) (nI 0) := fun h13 => by
    have v := a4 (decide_eq_true (h13.elim (fun y => Or.inl (by rw [y])) (fun y => Or.inr (by rw [y]))))
    have hl := I.2.2.2.2.2 hh h4
    rw [hr_V C (E.1 3 rfl) (E.1 12 rfl) (E.1 13 rfl) (by rw [List.length_append]; show _ + 1 ≤ 100; omega) (fun x hx => by
      rcases List.mem_append.mp hx with h | h
      · exact ((hc_wl_mem nc x).mp h).1
      · rw [List.mem_singleton.mp h]; exact hc)] at v
    exact (hx_sol_sat _ _).mp v
  refine ⟨E.c (fun j h1 h2 => o j (by omega) (by omega) (by omega)) (fun j h1 h2 => mo j (fun z => by rw [z] at h2; exact absurd h2 (by decide))), hr_U_bk U hc ht h4 (by rw [E.1 12 rfl]) hx hno hcar hsat, fun x hx i hi => ?_, Lw.c hq (fun j h1 h2 => o j (by omega) (by omega) (by omega)) (mo 4 (by decide)), C.c (mo 3 (by decide)) (mo 12 (by decide)) (mo 13 (by decide)), Z.c (fun j hj => mo j (by omega)), B.c (mo 4 (by decide)), A.c (mo 10 (by decide)) (mo 11 (by decide)) (mo 14 (by decide)), Y.c (fun j hj => o j (by omega) (by omega) (by omega)) (fun j hj => mo j (by omega))⟩
  rw [o _ (by omega) (by omega) (by omega), mo 14 (by decide)]
  exact P x hx i hi
theorem t_promise {d e L : Nat} {xs : Nat → Int32} {hp : hm_H} {Q : Option Value → hm_H → Prop} (S : hw_S L xs hp) {c t x : Int32} (K : hw_K L xs 156 (e + 6) [.ref 61, .int c, .int t, .int x, .retAddr 0] Q) : hm_T (d + 49) 94 0 [.ref 4, .int c, .int t, .int x, .retAddr 0] [] hp Q := by
  obtain ⟨k, ad, w, g, nc, np, nb, m, h, n, s, rfl, H, X, R, N⟩ := S
  have G := R.G X.nc16
  have hnc := X.nc16
  by_cases c1 : 0 ≤ c.toInt ∧ c.toInt < nc
  · obtain ⟨ck, hc, rfl, _, ec⟩ := hm_nIof2 c1.1 c1.2
    by_cases c2 : (0 ≤ t.toInt ∧ t.toInt ≤ 3) ∧ (0 ≤ x.toInt ∧ x.toInt ≤ 399)
    · obtain ⟨tk, ht, rfl, _, et⟩ := hm_nIof2 (N := 4) c2.1.1 (by have := c2.1.2; omega)
      obtain ⟨hh, h4, rfl, _, eh⟩ := hm_nIof2 (N := 400) c2.2.1 (by have := c2.2.2; omega)
      obtain ⟨⟨f, hmf, hf⟩, _⟩ := R.A ck hc
      have em : op_may m (hr_F m nc nb) nc (nI ck) (nI tk) (nI hh) = hc_hi k (ad 0 f) nb nc ck tk hh := by
        unfold op_may
        rw [if_pos c1, if_pos c2.1, if_pos c2.2, ec, et, eh, hw_may R hnc hc ht hf hmf h4]
      obtain ⟨j, hj, ej⟩ := hw_mayv (m := m) (LL := hr_F m nc nb) (nc := nc) (c := ck) (t := tk) (hh := hh)
      rw [← hw_may R hnc hc ht hf hmf h4] at ej
      refine s_94 X (R.I hnc) hc ht h4 hf (by rw [R.E.1 10 rfl]; exact hmf) (fun cn k2 w2 hs => ?_) (fun cy k2 w2 hs h2 X2 hl => ?_)
      · refine hw_go K H (s_156 G (fun S2 => ?_))
        have e1 : op_promise m (hr_F m nc nb) nc (nI ck) (nI tk) (nI hh) = (-1003, m) := by
          unfold op_promise
          rw [em, ej, if_pos (nI_pos' (by omega)), if_neg (fun z => cn (ej.trans ((hw_le0 (by omega)).mp z)))]
        rw [e1]
        exact ⟨rfl, hw_fin H (X.sc hs) (R.sc X.p hs S2) N⟩
      · refine hw_go K (H.lo hl) (s_156 G (fun S2 => ?_))
        have e1 : op_promise m (hr_F m nc nb) nc (nI ck) (nI tk) (nI hh) = (nI 1, hr_set m ck tk (nI hh)) := by
          unfold op_promise
          rw [em, cy, if_pos (by decide), if_pos (by decide), ec, et]
          rfl
        rw [e1]
        dsimp only
        have R2 : hw_R k2 ad m nc np nb := R.c X.p (R.E.c (fun j h1 _ => hs j (by omega)) (fun _ _ _ => rfl)) (fun j hj => hs j (by omega)) (fun _ _ => rfl)
        have R3 := hw_bk (f := f) R2 X.p hnc hc ht h4 (by rw [hs.hi]; exact cy)
        exact ⟨rfl, hw_fin (H.lo hl) X2 (R3.sc X.p (hc_sc.rfl2 _) S2) N⟩
    · refine s_94_out X hc c2 (hw_go K H (s_156 G (fun S2 => ?_)))
      have em : op_may m (hr_F m nc nb) nc (nI ck) t x = -1002 := by
        unfold op_may
        rw [if_pos c1]
        by_cases d1 : 0 ≤ t.toInt ∧ t.toInt ≤ 3
        · rw [if_pos d1, if_neg (fun d2 => c2 ⟨d1, d2⟩)]
        · rw [if_neg d1]
      have e1 : op_promise m (hr_F m nc nb) nc (nI ck) t x = (-1002, m) := by
        unfold op_promise
        rw [em, if_neg (by decide)]
      rw [e1]
      exact ⟨rfl, hw_fin H X (R.sc X.p (hc_sc.rfl2 k) S2) N⟩
  · refine s_94_bad X c1 (hw_go K H (s_156 G (fun S2 => ?_)))
    have em : op_may m (hr_F m nc nb) nc c t x = -1001 := if_neg c1
    have e1 : op_promise m (hr_F m nc nb) nc c t x = (-1001, m) := by
      unfold op_promise
      rw [em, if_neg (by decide)]
    rw [e1]
    exact ⟨rfl, hw_fin H X (R.sc X.p (hc_sc.rfl2 k) S2) N⟩
