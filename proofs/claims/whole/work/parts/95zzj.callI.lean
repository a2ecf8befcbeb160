/-! paper, undo -/
theorem hw_pap {k m : hm_M} {ad : hm_AD} {nc np nb c pa : Nat} {x : Int32} (R : hw_R k ad m nc np nb) (hq : ∀ i, i < 5 → ad 0 i < 5) (hc : c < nc) (hpa : pa < 6) (hx : hm_hv x) : hw_R (hm_uM k (101 + 2 * c) (upd (k (101 + 2 * c)) pa x)) ad (hm_pap m c pa x) nc np nb := by
  obtain ⟨E, U, P, Lw, C, Z, B, A, Y⟩ := R
  have o : ∀ j, ¬ j = 101 + 2 * c → hm_uM k (101 + 2 * c) (upd (k (101 + 2 * c)) pa x) j = k j := fun j hj => hm_uMo _ _ hj
  have m14 : hm_pap m c pa x 14 = upd (m 14) (6 * c + pa) x := rfl
  refine ⟨E.c (fun j h1 _ => o j (by omega)) (fun j h1 h2 => hm_uMo _ _ (fun z => by rw [z] at h2; exact absurd h2 (by decide))), ?_, fun c2 hc2 i hi => ?_, Lw.c hq (fun j h1 h2 => o j (by omega)) rfl, C.c rfl rfl rfl, Z.c (fun j hj => hm_uMo _ _ (by omega)), B.c rfl, fun c2 hc2 => ?_, Y.c (fun j hj => o j (by omega)) (fun j hj => hm_uMo _ _ (by omega))⟩
  · obtain ⟨hH, hv, hd, hc0, hR, hS, h31⟩ := U
    refine ⟨fun c2 hc2 t ht => by rw [o _ (by omega)]; exact hH c2 hc2 t ht, hv, hd, hc0, fun hh h4 => ?_, fun hh h4 => ?_, ?_⟩
    · rw [o 40 (by omega), o 41 (by omega), o 42 (by omega), o 43 (by omega), o 44 (by omega), o 45 (by omega)]
      exact hR hh h4
    · rw [hr_same (k := k) nc (fun y _ => by unfold hc_car; rw [o _ (by omega)])]
      exact hS hh h4
    · rw [o 31 (by omega)]
      exact h31
  · rw [m14]
    by_cases hcc : c2 = c
    · subst hcc
      rw [hm_uMe]
      unfold upd
      by_cases hip : i = pa
      · rw [if_pos hip, if_pos (by omega)]
      · rw [if_neg hip, if_neg (by omega)]
        exact P c2 hc2 i hi
    · rw [o _ (by omega), show upd (m 14) (6 * c + pa) x (6 * c2 + i) = m 14 (6 * c2 + i) from if_neg (by omega)]
      exact P c2 hc2 i hi
  · have a := A c2 hc2
    refine ⟨a.1, a.2.1, fun i hi => ?_⟩
    rw [m14]
    unfold upd
    by_cases h1 : 6 * c2 + i = 6 * c + pa
    · rw [if_pos h1]
      exact hx
    · rw [if_neg h1]
      exact a.2.2 i hi
theorem hw_m1 {x : Int32} : (x = -1 ∨ (0 ≤ x.toInt ∧ x.toInt ≤ 399)) ↔ (-1 ≤ x.toInt ∧ x.toInt ≤ 399) := by
  constructor
  · rintro (rfl | h)
    · decide
    · omega
  · intro h
    by_cases hx : x.toInt = -1
    · exact Or.inl (Int32.toInt_inj.mp (hx.trans (by decide)))
    · exact Or.inr (by omega)
theorem hw_hvx {x : Int32} (h : x = -1 ∨ (0 ≤ x.toInt ∧ x.toInt ≤ 399)) : hm_hv x := by
  rcases h with h | h
  · exact Or.inl h
  · obtain ⟨j, h1, h2, _⟩ := hm_nIof (x := x) (N := 400) h.1 (by omega)
    exact Or.inr ⟨j, h1, h2⟩
theorem hw_R.ok {k m : hm_M} {ad : hm_AD} {nc np nb : Nat} (R : hw_R k ad m nc np nb) : ∀ c, c < nc → hm_hok k c := fun c hc t ht => by
  rw [R.U.1 c hc t ht]
  exact R.U.2.1 _ (by omega)
theorem t_paper {d e L : Nat} {xs : Nat → Int32} {hp : hm_H} {Q : Option Value → hm_H → Prop} (S : hw_S L xs hp) {c pa x : Int32} (K : hw_K L xs 147 (e + 4) [.ref 61, .int c, .int pa, .int x] Q) : hm_T (d + 5) 74 0 [.ref 4, .int c, .int pa, .int x, .retAddr 0] [] hp Q := by
  obtain ⟨k, ad, w, g, nc, np, nb, m, h, n, s, rfl, H, X, R, N⟩ := S
  have hnc := X.nc16
  by_cases c1 : 0 ≤ c.toInt ∧ c.toInt < nc
  · obtain ⟨ck, hc, rfl, _, ec⟩ := hm_nIof2 c1.1 c1.2
    by_cases c2 : (0 ≤ pa.toInt ∧ pa.toInt ≤ 5) ∧ (x = -1 ∨ (0 ≤ x.toInt ∧ x.toInt ≤ 399))
    · obtain ⟨pk, hpk, rfl, _, ep⟩ := hm_nIof2 (N := 6) c2.1.1 (by have := c2.1.2; omega)
      obtain ⟨⟨f, hmf, hf⟩, _⟩ := R.A ck hc
      have R1 := hw_pap R X.p hc hpk (hw_hvx c2.2)
      obtain ⟨Kk, r, g1, g2, g3⟩ := hw_only R1 X.p hnc hc hf hmf
      refine s_74 X hc hpk c2.2 hf (by rw [R.E.1 10 rfl]; exact hmf) (R.ok ck hc) (fun h2 X2 hl => ?_)
      exact hw_go K (H.lo hl) (s_147 R.Z.1 X.nc16 hc hpk (hw_m1.mp c2.2) (fun c hc => (R.A c hc).1) g1 ⟨by rw [g2], hw_fin (H.lo hl) X2 g3 N⟩)
    · exact s_74_out X hc c2 (hw_go K H (s_147_out R.Z.1 X.nc16 c1 (fun z => c2 ⟨z.1, hw_m1.mpr z.2⟩) ⟨rfl, hw_fin H X R N⟩))
  · exact s_74_bad X c1 (hw_go K H (s_147_bad R.Z.1 X.nc16 c1 ⟨rfl, hw_fin H X R N⟩))
theorem t_undo {d e L : Nat} {xs : Nat → Int32} {hp : hm_H} {Q : Option Value → hm_H → Prop} (S : hw_S L xs hp) {c t : Int32} (K : hw_K L xs 158 (e + 4) [.ref 61, .int c, .int t] Q) : hm_T (d + 5) 97 0 [.ref 4, .int c, .int t, .retAddr 0] [] hp Q := by
  obtain ⟨k, ad, w, g, nc, np, nb, m, h, n, s, rfl, H, X, R, N⟩ := S
  have hnc := X.nc16
  by_cases c1 : 0 ≤ c.toInt ∧ c.toInt < nc
  · obtain ⟨ck, hc, rfl, _, ec⟩ := hm_nIof2 c1.1 c1.2
    by_cases c2 : 0 ≤ t.toInt ∧ t.toInt ≤ 3
    · obtain ⟨tk, ht, rfl, _, et⟩ := hm_nIof2 (N := 4) c2.1 (by have := c2.2; omega)
      obtain ⟨⟨f, hmf, hf⟩, _⟩ := R.A ck hc
      have hH := R.U.1 ck hc tk ht
      have hv := R.U.2.1 (4 * ck + tk) (by omega)
      rcases id hv with h1 | ⟨hh, h4, h1⟩
      · exact s_97_not X hc ht (by rw [hH]; exact h1) (hw_go K H (s_158_not R.Z.1 X.nc16 hc ht ((hm_hv_neg hv).mpr h1) ⟨rfl, hw_fin H X R N⟩))
      · have R1 := hw_tb R X.p hc ht h4 h1
        obtain ⟨Kk, r, g1, g2, g3⟩ := hw_only R1 X.p hnc hc hf hmf
        refine s_97 X hc ht h4 (by rw [hH]; exact h1) hf (by rw [R.E.1 10 rfl]; exact hmf) (R.ok ck hc) (fun h2 X2 hl => ?_)
        exact hw_go K (H.lo hl) (s_158 R.Z.1 X.nc16 hc ht (fun z => absurd ((hm_hv_neg hv).mp z) (by rw [h1]; exact hm_nIm hh (by omega))) (fun c hc => (R.A c hc).1) g1 ⟨by rw [g2], hw_fin (H.lo hl) X2 g3 N⟩)
    · exact s_97_out X hc c2 (hw_go K H (s_158_out R.Z.1 X.nc16 c1 c2 ⟨rfl, hw_fin H X R N⟩))
  · exact s_97_bad X c1 (hw_go K H (s_158_bad R.Z.1 X.nc16 c1 ⟨rfl, hw_fin H X R N⟩))
/-! law: what its text sets -/
theorem hw_f0 : ∀ (k j : Nat) (F : Nat → Int32) (x : Nat), hm_f0 k j F x = if j ≤ x ∧ x < j + k then (if x % 5 = 1 ∨ x % 5 = 2 then -1 else nI 0) else F x := by
  intro k
  induction k with
  | zero => intro j F x; exact (if_neg (by omega)).symm
  | succ k ih =>
    intro j F x
    show hm_f0 k (j + 1) (upd F j (if j % 5 = 1 ∨ j % 5 = 2 then -1 else nI 0)) x = _
    rw [ih]
    by_cases h1 : j + 1 ≤ x ∧ x < j + 1 + k
    · rw [if_pos h1, if_pos (show j ≤ x ∧ x < j + (k + 1) by omega)]
    · rw [if_neg h1]
      by_cases h2 : x = j
      · rw [if_pos (show j ≤ x ∧ x < j + (k + 1) by omega), h2]
        exact if_pos rfl
      · rw [if_neg (show ¬ (j ≤ x ∧ x < j + (k + 1)) by omega)]
        exact if_neg h2
theorem hw_lc {F : Nat → Int32} {b : Nat} : ∀ (k j : Nat) (L : Nat → Int32) (x : Nat), hm_lc F b k j L x = if b + j ≤ x ∧ x < b + j + k then F (x - b) else L x := by
  intro k
  induction k with
  | zero => intro j L x; exact (if_neg (by omega)).symm
  | succ k ih =>
    intro j L x
    show hm_lc F b k (j + 1) (upd L (b + j) (F j)) x = _
    rw [ih]
    by_cases h1 : b + (j + 1) ≤ x ∧ x < b + (j + 1) + k
    · rw [if_pos h1, if_pos (by omega)]
    · rw [if_neg h1]
      by_cases h2 : x = b + j
      · rw [if_pos (by omega), h2, Nat.add_sub_cancel_left]
        exact if_pos rfl
      · rw [if_neg (by omega)]
        exact if_neg h2
def hw_bF (F : Nat → Int32) : Prop := ∀ t, t < 4 → hm_bv (F (5 * t + 1)) ∧ hm_bv (F (5 * t + 2))
theorem hw_bF_u {F : Nat → Int32} {i : Nat} {v : Int32} (hF : hw_bF F) (h : hm_bv v ∨ (¬ i % 5 = 1 ∧ ¬ i % 5 = 2)) : hw_bF (upd F i v) := fun t ht => by
  have key : ∀ x, (x % 5 = 1 ∨ x % 5 = 2) → hm_bv (F x) → hm_bv (upd F i v x) := fun x hx hb => by
    unfold upd
    by_cases e : x = i
    · rw [if_pos e]
      rcases h with h | h
      · exact h
      · omega
    · rw [if_neg e]
      exact hb
  exact ⟨key _ (by omega) (hF t ht).1, key _ (by omega) (hF t ht).2⟩
theorem hw_it {c : Int32} {cl : Nat} {F F2 : Nat → Int32} (h : hm_it c cl F = .inr (.inl F2)) (hF : hw_bF F) : hw_bF F2 := by
  unfold hm_it at h
  split at h
  · split at h
    · exact nomatch h
    · cases h
      exact hw_bF_u hF (Or.inr (by omega))
  · split at h
    · split at h
      · exact nomatch h
      · exact nomatch h
    · split at h
      · split at h
        · exact nomatch h
        · cases h
          exact hw_bF_u hF (Or.inr (by omega))
      · split at h
        · exact nomatch h
        · split at h
          · exact nomatch h
          · split at h
            · exact nomatch h
            · cases h
              exact hw_bF_u hF (Or.inr (by omega))
theorem hw_fig {T : Nat → Int32} {N i : Nat} (h : hm_fig T N i = true) : ∃ dg, dg ≤ 9 ∧ T i = nI (48 + dg) := by
  unfold hm_fig at h
  rw [Bool.and_eq_true, decide_eq_true_iff, decide_eq_true_iff] at h
  obtain ⟨j, h1, h2, h3⟩ := hm_nIof (x := T i) (N := 58) (by omega) (by omega)
  exact ⟨j - 48, by omega, by rw [h2, show 48 + (j - 48) = j by omega]⟩
theorem hw_nv {T : Nat → Int32} {N a : Nat} : ∀ n, (∀ i, i < n → hm_fig T N (a + i) = true) → ∃ v, v < 10 ^ n ∧ hm_nv T a n = nI v := by
  intro n
  induction n with
  | zero => intro _; exact ⟨0, by decide, rfl⟩
  | succ n ih =>
    intro h
    obtain ⟨v, h1, h2⟩ := ih (fun i hi => h i (by omega))
    obtain ⟨dg, h3, h4⟩ := hw_fig (h n (by omega))
    refine ⟨10 * v + dg, by rw [Nat.pow_succ]; omega, ?_⟩
    show nI 10 * hm_nv T a n + T (a + n) - nI 48 = _
    rw [h2, h4, nI_mul, nI_add]
    exact hm_nIsub (by omega)
theorem hw_nf {T : Nat → Int32} {N a : Nat} (h0 : ¬ hm_nf T N a = 0) (h4 : ¬ hm_nf T N a = 4) : hm_bv (hm_nv T a (hm_nf T N a)) := by
  have key : ∃ n, n ≤ 3 ∧ hm_nf T N a = n ∧ ∀ i, i < n → hm_fig T N (a + i) = true := by
    unfold hm_nf at h0 h4 ⊢
    by_cases f0 : hm_fig T N a = true
    · rw [if_pos f0] at h0 h4 ⊢
      by_cases f1 : hm_fig T N (a + 1) = true
      · rw [if_pos f1] at h0 h4 ⊢
        by_cases f2 : hm_fig T N (a + 2) = true
        · rw [if_pos f2] at h0 h4 ⊢
          by_cases f3 : hm_fig T N (a + 3) = true
          · rw [if_pos f3] at h4
            exact absurd rfl h4
          · rw [if_neg f3]
            refine ⟨3, by decide, rfl, fun i hi => ?_⟩
            match i, hi with
            | 0, _ => exact f0
            | 1, _ => exact f1
            | 2, _ => exact f2
            | i + 3, h => omega
        · rw [if_neg f2]
          refine ⟨2, by decide, rfl, fun i hi => ?_⟩
          match i, hi with
          | 0, _ => exact f0
          | 1, _ => exact f1
          | i + 2, h => omega
      · rw [if_neg f1]
        refine ⟨1, by decide, rfl, fun i hi => ?_⟩
        match i, hi with
        | 0, _ => exact f0
        | i + 1, h => omega
    · rw [if_neg f0] at h0
      exact absurd rfl h0
  obtain ⟨n, k1, k2, k3⟩ := key
  obtain ⟨v, h1, h2⟩ := hw_nv n k3
  rw [k2]
  refine Or.inr ⟨v, ?_, h2⟩
  exact Nat.lt_of_lt_of_le h1 (Nat.pow_le_pow_right (by decide) k1)
theorem hw_au {T : Nat → Int32} {N : Nat} : ∀ (k a aw cl bd : Nat) (seen : Int32) (F : Nat → Int32), hw_bF F → hw_bF (hm_au T N k a aw cl bd seen F).2.2 := by
  intro k
  induction k with
  | zero =>
    intro a aw cl bd seen F hF
    show hw_bF (if aw = 0 then (nI 0, -1, F) else (nI 1, nI N, F) : hm_PR).2.2
    split <;> exact hF
  | succ k ih =>
    intro a aw cl bd seen F hF
    show hw_bF (hm_ab T N (hm_au T N k) a aw cl bd seen F).2.2
    unfold hm_ab
    by_cases h1 : a < N
    · rw [if_pos h1]
      by_cases h2 : T a = nI 32
      · rw [if_pos h2]
        exact ih _ _ _ _ _ _ hF
      · rw [if_neg h2]
        by_cases h3 : aw = 0
        · rw [if_pos h3]
          by_cases h4 : hm_so (T a) < 0
          · rw [if_pos h4]; exact hF
          · rw [if_neg h4]
            by_cases h5 : hm_has seen (hm_so (T a)) = true
            · rw [if_pos h5]; exact hF
            · rw [if_neg h5]; exact ih _ _ _ _ _ _ hF
        · rw [if_neg h3]
          by_cases h4 : aw = 1
          · rw [if_pos h4]
            by_cases h5 : T a = nI 58
            · rw [if_pos h5]; exact ih _ _ _ _ _ _ hF
            · rw [if_neg h5]; exact hF
          · rw [if_neg h4]
            by_cases h5 : aw = 2
            · rw [if_pos h5]
              by_cases h6 : T a = nI 59
              · rw [if_pos h6]; exact ih _ _ _ _ _ _ hF
              · rw [if_neg h6]
                cases hi : hm_it (T a) cl F with
                | inl f => exact hF
                | inr z =>
                  cases z with
                  | inl F2 => exact ih _ _ _ _ _ _ (hw_it hi hF)
                  | inr b => exact ih _ _ _ _ _ _ hF
            · rw [if_neg h5]
              by_cases h6 : hm_nf T N a = 0
              · rw [if_pos h6]; exact hF
              · rw [if_neg h6]
                by_cases h7 : hm_nf T N a = 4
                · rw [if_pos h7]; exact hF
                · rw [if_neg h7]
                  exact ih _ _ _ _ _ _ (hw_bF_u hF (Or.inl (hw_nf h6 h7)))
    · rw [if_neg h1]
      split <;> exact hF
theorem hw_ad2 {ad : hm_AD} {f x : Nat} (hx : x < 4) : hc_ad2 ad f 0 x = if x = f then ad 0 4 else ad 0 x := by
  show (if 0 = 0 ∧ x = 4 then ad 0 f else if 0 = 0 ∧ x = f then ad 0 4 else ad 0 x) = _
  rw [if_neg (by omega)]
  by_cases h : x = f
  · rw [if_pos ⟨rfl, h⟩, if_pos h]
  · rw [if_neg (fun z => h z.2), if_neg h]
theorem hw_lwok {k k2 m : hm_M} {ad : hm_AD} {nc np nb f a2 : Nat} {F : Nat → Int32} (R : hw_R k ad m nc np nb) (hq : ∀ i, i < 5 → ad 0 i < 5) (hpi : ∀ i j, i < 5 → j < 5 → ad 0 i = ad 0 j → i = j) (hf : f < 4) (hr : hc_rs (ad 0 4) k k2) (hL : hc_LF k2 (ad 0 4) F) (h8 : k2 8 0 = -1) (hB : hw_bF F) : hw_R (hm_uM k2 7 (fun _ => nI 0)) (hc_ad2 ad f) (hm_lawok m a2 F f) nc np nb := by
  obtain ⟨E, U, P, Lw, C, Z, B, A, Y⟩ := R
  have h5 := hq 4 (by decide)
  have o : ∀ j, ¬ j = 8 → ¬ j = 7 → (j < 46 ∨ 51 < j) → (j < 60 + 4 * ad 0 4 ∨ 63 + 4 * ad 0 4 < j) → hm_uM k2 7 (fun _ => nI 0) j = k j := fun j b1 b2 b3 b4 => by
    rw [hm_uMo _ _ b2]
    exact hr j b1 b3 b4
  have mo : ∀ j, ¬ j = 8 → ¬ j = 24 → ¬ j = 5 → ¬ j = 7 → ¬ j = 4 → hm_lawok m a2 F f j = m j := fun j b1 b2 b3 b4 b5 => by
    unfold hm_lawok hm_pa
    rw [hm_uMo _ _ b5, hm_uMo _ _ b4, hm_uMo _ _ b3, hm_uMo _ _ b2, hm_uMo _ _ b1]
  have m4 : ∀ x, hm_lawok m a2 F f 4 x = if 20 * f ≤ x ∧ x < 20 * f + 20 then F (x - 20 * f) else m 4 x := fun x => hw_lc 20 0 (m 4) x
  refine ⟨⟨fun j hj => ?_, fun j hj => ?_⟩, U.c (fun j hj => o j (by omega) (by omega) (by omega) (by omega)) rfl rfl rfl rfl U.2.2.2.1, P.c (fun j hj => o j (by omega) (by omega) (by omega) (by omega)) rfl, fun f2 hf2 t ht i hi => ?_, C.c rfl rfl rfl, ⟨Z.1, Z.2.1, Z.2.2.1, Z.2.2.2.1, Z.2.2.2.2.1, ⟨0, by decide, rfl, fun i hi => by omega⟩, Z.2.2.2.2.2.2⟩, fun f2 t hf2 ht => ?_, A.c rfl rfl rfl, Y.c (fun j hj => o j (by omega) (by omega) (by omega) (by omega)) (fun j hj => mo j (by omega) (by omega) (by omega) (by omega) (by omega))⟩
  · have hj2 := of_decide_eq_true hj
    rw [o j (by omega) (by omega) (by omega) (by omega), mo j (by omega) (by omega) (by omega) (by omega) (by omega)]
    exact E.1 j hj
  · have hj2 := of_decide_eq_true hj
    by_cases e8 : j = 8
    · rw [e8]
      exact h8
    by_cases e7 : j = 7
    · rw [e7]
      rfl
    rw [o j e8 e7 (by omega) (by omega), mo j e8 (by omega) (by omega) e7 (by omega)]
    exact E.2 j hj
  · rw [hw_ad2 hf2, m4]
    by_cases h : f2 = f
    · rw [if_pos h, if_pos (by omega), hm_uMo _ _ (by omega), hL t ht i hi]
      congr 1
      omega
    · rw [if_neg h, if_neg (by omega)]
      have h6 := hq f2 (by omega)
      have h7 : ¬ ad 0 f2 = ad 0 4 := fun z => by
        have := hpi f2 4 (by omega) (by omega) z
        omega
      rw [o _ (by omega) (by omega) (by omega) (by omega)]
      exact Lw f2 hf2 t ht i hi
  · rw [m4, m4]
    by_cases h : f2 = f
    · rw [if_pos (by omega), if_pos (by omega), show 20 * f2 + 5 * t + 1 - 20 * f = 5 * t + 1 by omega, show 20 * f2 + 5 * t + 2 - 20 * f = 5 * t + 2 by omega]
      exact hB t ht
    · rw [if_neg (by omega), if_neg (by omega)]
      exact B f2 t hf2 ht
theorem hw_lwno {k k2 m : hm_M} {ad : hm_AD} {nc np nb a2 : Nat} {F : Nat → Int32} {pl : Int32} (R : hw_R k ad m nc np nb) (hq : ∀ i, i < 5 → ad 0 i < 5) (hpi : ∀ i j, i < 5 → j < 5 → ad 0 i = ad 0 j → i = j) (hr : hc_rs (ad 0 4) k k2) (h8 : k2 8 0 = pl) : hw_R (hm_uM k2 7 (fun _ => nI 0)) ad (hm_lw m a2 F pl) nc np nb := by
  obtain ⟨E, U, P, Lw, C, Z, B, A, Y⟩ := R
  have h5 := hq 4 (by decide)
  have o : ∀ j, ¬ j = 8 → ¬ j = 7 → (j < 46 ∨ 51 < j) → (j < 60 + 4 * ad 0 4 ∨ 63 + 4 * ad 0 4 < j) → hm_uM k2 7 (fun _ => nI 0) j = k j := fun j b1 b2 b3 b4 => by
    rw [hm_uMo _ _ b2]
    exact hr j b1 b3 b4
  have mo : ∀ j, ¬ j = 8 → ¬ j = 24 → ¬ j = 5 → ¬ j = 7 → hm_lw m a2 F pl j = m j := fun j b1 b2 b3 b4 => by
    unfold hm_lw hm_pa
    rw [hm_uMo _ _ b4, hm_uMo _ _ b1, hm_uMo _ _ b3, hm_uMo _ _ b2, hm_uMo _ _ b1]
  refine ⟨⟨fun j hj => ?_, fun j hj => ?_⟩, U.c (fun j hj => o j (by omega) (by omega) (by omega) (by omega)) rfl rfl rfl rfl U.2.2.2.1, P.c (fun j hj => o j (by omega) (by omega) (by omega) (by omega)) rfl, fun f2 hf2 t ht i hi => ?_, C.c rfl rfl rfl, ⟨Z.1, Z.2.1, Z.2.2.1, Z.2.2.2.1, Z.2.2.2.2.1, ⟨0, by decide, rfl, fun i hi => by omega⟩, Z.2.2.2.2.2.2⟩, B.c rfl, A.c rfl rfl rfl, Y.c (fun j hj => o j (by omega) (by omega) (by omega) (by omega)) (fun j hj => mo j (by omega) (by omega) (by omega) (by omega))⟩
  · have hj2 := of_decide_eq_true hj
    rw [o j (by omega) (by omega) (by omega) (by omega), mo j (by omega) (by omega) (by omega) (by omega)]
    exact E.1 j hj
  · have hj2 := of_decide_eq_true hj
    by_cases e8 : j = 8
    · rw [e8]
      exact h8
    by_cases e7 : j = 7
    · rw [e7]
      rfl
    rw [o j e8 e7 (by omega) (by omega), mo j e8 (by omega) (by omega) e7]
    exact E.2 j hj
  · have h6 := hq f2 (by omega)
    have h7 : ¬ ad 0 f2 = ad 0 4 := fun z => by
      have := hpi f2 4 (by omega) (by omega) z
      omega
    rw [o _ (by omega) (by omega) (by omega) (by omega), mo 4 (by decide) (by decide) (by decide) (by decide)]
    exact Lw f2 hf2 t ht i hi
/-- a law's cases, one by one -/
theorem hw_lwu {ad : hm_AD} {nc np nb f : Nat} (hq : ∀ i, i < 5 → ad 0 i < 5) (hf : f < 4) : ∀ (j c : Nat) (k m : hm_M) (a b : Nat), c + j = nc → hw_R k ad (hm_un (a, m)) nc np nb → (∀ i, i < 4 * c → hw_fine (-1) (nI f) m i) → ∃ (m2 : hm_M) (u : Nat), (hc_lwu f (ad 0 f) j c b k).1 = b + u ∧ hw_R (hc_lwu f (ad 0 f) j c b k).2 ad (hm_un (a + u, m2)) nc np nb ∧ (∀ i, i < 4 * nc → hw_fine (-1) (nI f) m2 i) ∧ (∀ res K, hm_pr (-1) (nI f) nc K m2 0 (a + u) = some res → ∃ K2, hm_pr (-1) (nI f) nc K2 m 0 a = some res) := by
  intro j
  induction j with
  | zero =>
    intro c k m a b hcj R hfi
    exact ⟨m, 0, rfl, R, fun i hi => hfi i (by omega), fun res K h => ⟨K, h⟩⟩
  | succ j ih =>
    intro c k m a b hcj R hfi
    have hk10 : k 10 c = m 10 c := by
      rw [R.E.1 10 rfl]
      rfl
    by_cases h : k 10 c = nI f
    · have e : hc_lwu f (ad 0 f) (j + 1) c b k = hc_lwu f (ad 0 f) j (c + 1) (b + (hc_ub c (ad 0 f) 4 0 k).1) (hc_ub c (ad 0 f) 4 0 k).2 := if_pos h
      have hle : hm_cnt (fun u => decide (¬ m 15 (4 * c + u) = -1)) 4 ≤ 4 := hm_cnt_len _ 4
      have hask : ¬ hm_ask m (-1) (nI f) c = 0 := by
        unfold hm_ask
        rw [if_neg (by decide), if_neg (fun z => z (hk10.symm.trans h))]
        decide
      obtain ⟨m2, u, g1, g2, g3, g4, g5⟩ := hw_ub (only := -1) (faith := nI f) hq (by omega) hf 4 k m a 0 R (hk10.symm.trans h) hask hfi hle
      obtain ⟨m3, u3, l1, l2, l3, l4⟩ := ih (c + 1) (hc_ub c (ad 0 f) 4 0 k).2 m2 (a + u) (b + (hc_ub c (ad 0 f) 4 0 k).1) (by omega) g2 g4
      rw [e]
      refine ⟨m3, u + u3, by omega, ?_, l3, fun res K h9 => ?_⟩
      · rw [← Nat.add_assoc]
        exact l2
      · obtain ⟨K2, h10⟩ := l4 res K (by rw [Nat.add_assoc]; exact h9)
        exact g5 res K2 h10
    · have e : hc_lwu f (ad 0 f) (j + 1) c b k = hc_lwu f (ad 0 f) j (c + 1) b k := if_neg h
      rw [e]
      refine ih (c + 1) k m a b (by omega) R (fun i hi => ?_)
      by_cases h1 : i < 4 * c
      · exact hfi i h1
      · intro z
        refine z.1 ?_
        unfold hm_ask
        rw [if_neg (by decide), show i / 4 = c by omega, if_pos (fun y => h (hk10.trans y))]
        rfl
theorem t_law {d e L : Nat} {xs : Nat → Int32} {hp : hm_H} {Q : Option Value → hm_H → Prop} (S : hw_S L xs hp) {x : Int32} (K : hw_K L xs 129 (e + 4) [.ref 61, .int x, .retAddr 0, .retAddr 0] Q) : hm_T (d + 6) 26 0 [.ref 4, .int x, .retAddr 0, .retAddr 0, .retAddr 0, .retAddr 0, .retAddr 0] [] hp Q := by
  obtain ⟨k, ad, w, g, nc, np, nb, m, h, n, s, rfl, H, X, R, N⟩ := S
  have hnc := X.nc16
  obtain ⟨tx, t1, t2, t3⟩ := R.Z.2.2.2.2.2.1
  have t4 : k 7 0 = nI tx := (R.E.2 7 rfl).trans t2
  by_cases c1 : 0 ≤ x.toInt ∧ x.toInt ≤ 3
  · obtain ⟨f, hf, rfl, _, ef⟩ := hm_nIof2 (N := 4) c1.1 (by have := c1.2; omega)
    have hF0 : ∀ t, t < 4 → ∀ i, i < 5 → hm_f0 20 0 (m 5) (5 * t + i) = hc_f0 i := fun t ht i hi => by
      rw [hw_f0, if_pos (by omega)]
      unfold hc_f0
      by_cases h1 : i = 1 ∨ i = 2
      · rw [if_pos h1, if_pos (by omega)]
      · rw [if_neg h1, if_neg (by omega)]
    have hb0 : hw_bF (hm_f0 20 0 (m 5)) := fun t ht => by
      rw [hF0 t ht 1 (by decide), hF0 t ht 2 (by decide)]
      exact ⟨Or.inl rfl, Or.inl rfl⟩
    obtain ⟨RR, hRR⟩ : ∃ RR, hm_A (m 6) tx 0 0 0 0 (nI 0) (hm_f0 20 0 (m 5)) = RR := ⟨_, rfl⟩
    have hbR : hw_bF RR.2.2 := by
      rw [← hRR]
      exact hw_au _ _ _ _ _ _ _ hb0
    refine s_26 X hf t4 t1 R.ok hF0 (R := RR) (by rw [R.E.1 6 rfl]; exact hRR) (fun r0 k2 hr hL h8 h2 X2 hl => ?_) (fun q q0 q6 rq k2 hr h8 X2 => ?_)
    · refine hw_go K (H.lo hl) (s_129 R.Z.1 X.nc16 t2 t1 t3 (fun c hc => (R.A c hc).1) hf hRR (fun _ a2 => ?_) (fun q q0 q6 rq => absurd (hm_nIinj (r0.symm.trans rq) (by omega) (by omega)) (by omega)))
      have hq2 : ∀ i, i < 5 → hc_ad2 ad f 0 i < 5 := (X.ad2 hf).p
      have R1 := hw_lwok (a2 := a2) R X.p X.pi hf hr hL h8 hbR
      have ea : hc_ad2 ad f 0 f = ad 0 4 := by rw [hw_ad2 hf, if_pos rfl]
      obtain ⟨m3, u, l1, l2, l3, l4⟩ := hw_lwu (b := 0) hq2 hf nc 0 _ _ 0 (by omega) (hw_un0 R1 hq2) (fun i hi => by omega)
      rw [ea] at l1 l2
      obtain ⟨K2, h10⟩ := l4 (0 + u, m3) _ (hw_end l3)
      exact ⟨K2, _, h10, by rw [l1], hw_fin (H.lo hl) X2 l2 N⟩
    · refine hw_go K H (s_129 R.Z.1 X.nc16 t2 t1 t3 (fun c hc => (R.A c hc).1) hf hRR (fun r0 => absurd (hm_nIinj (r0.symm.trans rq) (by omega) (by omega)) (by omega)) (fun q2 q20 q26 rq2 a2 F2 => ?_))
      have eq : q2 = q := hm_nIinj (rq2.symm.trans rq) (by omega) (by omega)
      rw [eq]
      exact ⟨rfl, hw_fin H X2 (hw_lwno R X.p X.pi hr h8) N⟩
  · exact s_26_bad c1 (hw_go K H (s_129_bad c1 ⟨rfl, hw_fin H X R N⟩))
