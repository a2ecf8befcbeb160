/-! days, plan, tie, settle -/
theorem hw_gr (t r : Int32) : hm_gr t r = hc_gr t r := by
  unfold hm_gr hc_gr
  by_cases h : lg_cmp (t.toInt64 + t.toInt64 * r.toInt64 / 10000) 100000000 ≤ 0
  · rw [if_pos h, if_neg (Int32.not_lt.mpr h)]
  · rw [if_neg h, if_pos (Int32.not_le.mp h)]
theorem hw_dy {N : Nat} : ∀ (j q : Nat) (k : hm_M), hc_dy N j q k = hm_uM k 20 (fun i => if q ≤ i ∧ i < q + j then hc_grn (k 23 0) N (k 20 i) else k 20 i) := by
  intro j
  induction j with
  | zero =>
    intro q k
    show k = _
    funext a
    by_cases ha : a = 20
    · rw [ha, hm_uMe]
      funext i
      rw [if_neg (by omega)]
    · rw [hm_uMo _ _ ha]
  | succ j ih =>
    intro q k
    show hc_dy N j (q + 1) (hc_up k q (hc_grn (k 23 0) N (k 20 q))) = _
    rw [ih]
    unfold hc_up
    rw [hm_uM2, hm_uMe, hm_uMo _ _ (show ¬ (23 : Nat) = 20 by decide)]
    congr 1
    funext i
    by_cases hi : i = q
    · rw [if_neg (by omega), if_pos (by omega), hi]
      exact if_pos rfl
    · have e : upd (k 20) q (hc_grn (k 23 0) N (k 20 q)) i = k 20 i := if_neg hi
      rw [e]
      by_cases h2 : q + 1 ≤ i ∧ i < q + 1 + j
      · rw [if_pos h2, if_pos (by omega)]
      · rw [if_neg h2, if_neg (by omega)]
theorem hw_ngt : ∀ (j q : Nat) (m : hm_M), hm_ngt j q m = hm_uM m 20 (fun i => if q ≤ i ∧ i < q + j then hc_gr (m 20 i) (m 23 0) else m 20 i) := by
  intro j
  induction j with
  | zero =>
    intro q k
    show k = _
    funext a
    by_cases ha : a = 20
    · rw [ha, hm_uMe]
      funext i
      rw [if_neg (by omega)]
    · rw [hm_uMo _ _ ha]
  | succ j ih =>
    intro q k
    show hm_ngt j (q + 1) (hm_uM k 20 (upd (k 20) q (hm_gr (k 20 q) (k 23 0)))) = _
    rw [ih]
    rw [hm_uM2, hm_uMe, hm_uMo _ _ (show ¬ (23 : Nat) = 20 by decide)]
    congr 1
    funext i
    by_cases hi : i = q
    · rw [if_neg (by omega), if_pos (by omega), hi, ← hw_gr]
      exact if_pos rfl
    · have e : upd (k 20) q (hm_gr (k 20 q) (k 23 0)) i = k 20 i := if_neg hi
      rw [e]
      by_cases h2 : q + 1 ≤ i ∧ i < q + 1 + j
      · rw [if_pos h2, if_pos (by omega)]
      · rw [if_neg h2, if_neg (by omega)]
theorem hw_ngs {np : Nat} : ∀ (N : Nat) (m : hm_M), hm_ngs np N m = hm_uM m 20 (fun i => if i < np then hc_grn (m 23 0) N (m 20 i) else m 20 i) := by
  intro N
  induction N with
  | zero =>
    intro k
    show k = _
    funext a
    by_cases ha : a = 20
    · rw [ha, hm_uMe]
      funext i
      show k 20 i = if i < np then k 20 i else k 20 i
      split <;> rfl
    · rw [hm_uMo _ _ ha]
  | succ N ih =>
    intro k
    show hm_ngs np N (hm_ngt np 0 k) = _
    rw [ih, hw_ngt]
    rw [hm_uM2, hm_uMe, hm_uMo _ _ (show ¬ (23 : Nat) = 20 by decide)]
    congr 1
    funext i
    by_cases hi : i < np
    · rw [if_pos hi, if_pos hi, if_pos (by omega)]
      rfl
    · rw [if_neg hi, if_neg hi, if_neg (by omega)]
theorem t_days {d e L : Nat} {xs : Nat → Int32} {hp : hm_H} {Q : Option Value → hm_H → Prop} (S : hw_S L xs hp) {x : Int32} (K : hw_K L xs 169 (e + 1) [.ref 61, .int x, .retAddr 0, .retAddr 0, .retAddr 0, .retAddr 0] Q) : hm_T (d + 4) 110 0 [.ref 4, .int x, .retAddr 0] [] hp Q := by
  obtain ⟨k, ad, w, g, nc, np, nb, m, h, n, s, rfl, H, X, R, N⟩ := S
  by_cases c : 0 ≤ x.toInt ∧ x.toInt ≤ 400
  · obtain ⟨N0, h9, rfl, _, _⟩ := hm_nIof2 (x := x) (N := 401) (by omega) (by omega)
    refine s_110 X (by omega) (fun h2 X2 hl => ?_)
    have hF : (fun i => if 0 ≤ i ∧ i < 0 + np then hc_grn (k 23 0) N0 (k 20 i) else k 20 i) = (fun i => if i < np then hc_grn (m 23 0) N0 (m 20 i) else m 20 i) := by
      funext i
      rw [R.E.2 23 rfl, R.E.1 20 rfl]
      by_cases hi : i < np
      · rw [if_pos hi, if_pos (by omega)]
      · rw [if_neg hi, if_neg (by omega)]
    rw [hw_dy, hF] at X2 ⊢
    refine hw_go K (H.lo hl) (s_169 R.Z.2.2.1 X.np16 (by omega) ?_)
    rw [hw_ngs, hm_uMe, hm_uMe]
    exact ⟨rfl, hw_fin (H.lo hl) X2 (R.c X.p (R.E.u (fun _ => rfl) (fun _ => rfl)) (fun j hj => hm_uMo _ _ (by omega)) (fun j hj => hm_uMo _ _ (by omega))) N⟩
  · exact s_110_out c (hw_go K H (s_169_out c ⟨rfl, hw_fin H X R N⟩))
theorem t_plan {d e L : Nat} {xs : Nat → Int32} {hp : hm_H} {Q : Option Value → hm_H → Prop} (S : hw_S L xs hp) {v : Int32} (K : hw_K L xs 165 (e + 1) [.ref 61, .int v] Q) : hm_T (d + 9) 105 0 [.ref 4, .int v] [] hp Q := by
  obtain ⟨k, ad, w, g, nc, np, nb, m, h, n, s, rfl, H, X, R, N⟩ := S
  have hnp := X.np16
  have ez : m 18 0 = nI np := R.Z.2.2.1
  by_cases c : 0 ≤ v.toInt ∧ v.toInt ≤ 1000000
  · by_cases c2 : np = 16
    · refine s_105_full X c c2 (hw_go K H (s_165 ez X.np16 ?_))
      have e : op_plan m v = (-1004, m) := by
        unfold op_plan
        rw [if_pos c, if_pos (by rw [ez, c2])]
      rw [e]
      exact ⟨rfl, hw_fin H X R N⟩
    · refine s_105 X N.1 c (by omega) (fun A2 g2 h2 n2 s2 X2 hl hA n3 n4 s3 s4 => ?_)
      refine hw_go K (H.lo hl) (s_165 ez X.np16 ?_)
      have e : op_plan m v = (nI np, hm_uM (hm_uM (hm_uM (hm_uM (hm_uM m 19 (upd (m 19) np v)) 20 (upd (m 20) np (nI 0))) 21 (upd (m 21) np (-1))) 22 (upd (m 22) np (nI 0))) 18 (fun _ => nI (np + 1))) := by
        unfold op_plan
        rw [if_pos c, if_neg (by rw [ez]; exact fun z => c2 (hm_nIinj z (by omega) (by omega))), ez, nI_clamp (by omega), nI_add]
      rw [e]
      dsimp only
      have hA0 : A2 0 = ad 0 := (hA 0 (by decide)).trans (funext fun j => if_neg (by omega))
      obtain ⟨m2, hm2⟩ : ∃ m2, m2 = hm_uM (hm_uM (hm_uM (hm_uM (hm_uM m 19 (upd (m 19) np v)) 20 (upd (m 20) np (nI 0))) 21 (upd (m 21) np (-1))) 22 (upd (m 22) np (nI 0))) 18 (fun _ => nI (np + 1)) := ⟨_, rfl⟩
      obtain ⟨k2, hk2⟩ : ∃ k2, k2 = hm_uM (hm_uM (hc_kq k np v) 53 (fun _ => k 53 0 + nI 1)) 18 (fun _ => nI (np + 1)) := ⟨_, rfl⟩
      have E2 : hw_E k2 m2 := by
        rw [hk2, hm2]
        exact (((((((R.E.u (fun _ => by rw [R.E.1 19 rfl]) (fun z => absurd z (by decide))).u (fun _ => by rw [R.E.1 20 rfl]) (fun z => absurd z (by decide))).u (fun _ => by rw [R.E.1 21 rfl]) (fun z => absurd z (by decide))).uk rfl rfl).u (fun _ => by rw [R.E.1 22 rfl]) (fun z => absurd z (by decide))).uk rfl rfl).u (fun z => absurd z (by decide)) (fun z => absurd z (by decide)))
      have oth : ∀ j, ¬ j = 19 → ¬ j = 20 → ¬ j = 21 → ¬ j = 22 → ¬ j = 18 → m2 j = m j := fun j a1 a2 a3 a4 a5 => by
        rw [hm2, hm_uMo _ _ a5, hm_uMo _ _ a4, hm_uMo _ _ a3, hm_uMo _ _ a2, hm_uMo _ _ a1]
      have othk : ∀ j, ¬ j = 19 → ¬ j = 20 → ¬ j = 21 → ¬ j = 22 → ¬ j = 18 → ¬ j = 33 → ¬ j = 53 → k2 j = k j := fun j a1 a2 a3 a4 a5 a6 a7 => by
        rw [hk2]
        unfold hc_kq
        rw [hm_uMo _ _ a5, hm_uMo _ _ a7, hm_uMo _ _ a4, hm_uMo _ _ a6, hm_uMo _ _ a3, hm_uMo _ _ a2, hm_uMo _ _ a1]
      have m21 : m2 21 = upd (m 21) np (-1) := by rw [hm2]; rfl
      have m22 : m2 22 = upd (m 22) np (nI 0) := by rw [hm2]; rfl
      have m18 : m2 18 0 = nI (np + 1) := by rw [hm2]; rfl
      have k33 : k2 33 = upd (k 33) np (nI 0) := by rw [hk2]; rfl
      rw [← hm2]
      rw [← hk2] at X2 ⊢
      refine ⟨rfl, hw_fin (np := np + 1) (nb := nb) (H.lo hl) X2 ?_ ?_⟩
      rotate_left
      · obtain ⟨n5, n6, n7⟩ := N
        exact ⟨by omega, by omega, by omega⟩
      obtain ⟨E, U, P, Lw, C, Z, B, A, Y⟩ := R
      refine ⟨E2, U.c (fun j hj => othk j (by omega) (by omega) (by omega) (by omega) (by omega) (by omega) (by omega)) (oth 15 (by decide) (by decide) (by decide) (by decide) (by decide)) (oth 3 (by decide) (by decide) (by decide) (by decide) (by decide)) (oth 12 (by decide) (by decide) (by decide) (by decide) (by decide)) (oth 13 (by decide) (by decide) (by decide) (by decide) (by decide)) (by rw [oth 0 (by decide) (by decide) (by decide) (by decide) (by decide)]; exact U.2.2.2.1), P.c (fun j hj => othk j (by omega) (by omega) (by omega) (by omega) (by omega) (by omega) (by omega)) (oth 14 (by decide) (by decide) (by decide) (by decide) (by decide)), ?_, C.c (oth 3 (by decide) (by decide) (by decide) (by decide) (by decide)) (oth 12 (by decide) (by decide) (by decide) (by decide) (by decide)) (oth 13 (by decide) (by decide) (by decide) (by decide) (by decide)), ?_, B.c (oth 4 (by decide) (by decide) (by decide) (by decide) (by decide)), A.c (oth 10 (by decide) (by decide) (by decide) (by decide) (by decide)) (oth 11 (by decide) (by decide) (by decide) (by decide) (by decide)) (oth 14 (by decide) (by decide) (by decide) (by decide) (by decide)), ?_⟩
      · have L2 := Lw.c (k2 := k2) (m2 := m2) X.p (fun j h1 h2 => othk j (by omega) (by omega) (by omega) (by omega) (by omega) (by omega) (by omega)) (oth 4 (by decide) (by decide) (by decide) (by decide) (by decide))
        intro f hf t ht i hi
        rw [hA0]
        exact L2 f hf t ht i hi
      · obtain ⟨z1, z2, z3, z4, z5, z6, z7⟩ := Z
        refine ⟨?_, z2, m18, by omega, ?_, ?_, ?_⟩
        · rw [oth 9 (by decide) (by decide) (by decide) (by decide) (by decide)]; exact z1
        · rw [oth 2 (by decide) (by decide) (by decide) (by decide) (by decide)]; exact z5
        · rw [oth 7 (by decide) (by decide) (by decide) (by decide) (by decide), oth 6 (by decide) (by decide) (by decide) (by decide) (by decide)]; exact z6
        · rw [oth 16 (by decide) (by decide) (by decide) (by decide) (by decide)]; exact z7
      · have k34 : k2 34 = k 34 := othk 34 (by decide) (by decide) (by decide) (by decide) (by decide) (by decide) (by decide)
        have k32 : k2 32 = k 32 := othk 32 (by decide) (by decide) (by decide) (by decide) (by decide) (by decide) (by decide)
        have m16 : m2 16 = m 16 := oth 16 (by decide) (by decide) (by decide) (by decide) (by decide)
        obtain ⟨y1, y2, y3⟩ := Y
        refine ⟨fun q hq => ?_, fun c2 hc2 => ?_, ?_⟩
        · rw [m21, m22, k33, k34, m16]
          by_cases hqn : q = np
          · exact Or.inl ⟨if_pos hqn, if_pos hqn, if_pos hqn⟩
          · rw [show upd (m 21) np (-1) q = m 21 q from if_neg hqn, show upd (m 22) np (nI 0) q = m 22 q from if_neg hqn, show upd (k 33) np (nI 0) q = k 33 q from if_neg hqn]
            exact y1 q (by omega)
        · rw [k34, m21]
          rcases y2 c2 hc2 with h5 | ⟨q, h5, h6, h7⟩
          · exact Or.inl h5
          · exact Or.inr ⟨q, by omega, h6, (if_neg (by omega)).trans h7⟩
        · rw [k32, m22]
          show _ = hm_sg (upd (m 22) np (nI 0)) np + upd (m 22) np (nI 0) np
          rw [hr_sg_c (f := m 22) (f2 := upd (m 22) np (nI 0)) np (fun x hx => if_neg (by omega)), show upd (m 22) np (nI 0) np = 0 from if_pos rfl, Int32.add_zero]
          exact y3
  · refine s_105_out c (hw_go K H (s_165 ez X.np16 ?_))
    have e : op_plan m v = (-1002, m) := if_neg c
    rw [e]
    exact ⟨rfl, hw_fin H X R N⟩
/-! tie, settle: the Model's search for a case's plan -/
theorem hw_po0 {t : Nat → Int32} {c : Int32} : ∀ n, (∀ q, q < n → ¬ t q = c) → hm_po t c n = -1 := by
  intro n
  induction n with
  | zero => intro _; rfl
  | succ n ih =>
    intro h
    show (if ¬ t n = c then hm_po t c n else nI n) = -1
    rw [if_pos (h n (by omega))]
    exact ih (fun q hq => h q (by omega))
theorem hw_po1 {t : Nat → Int32} {c : Int32} {q : Nat} (hq : t q = c) : ∀ n, q < n → (∀ p, p < n → t p = c → p = q) → hm_po t c n = nI q := by
  intro n
  induction n with
  | zero => intro h; omega
  | succ n ih =>
    intro h hu
    show (if ¬ t n = c then hm_po t c n else nI n) = nI q
    by_cases hn : t n = c
    · rw [if_neg (fun z => z hn), hu n (by omega) hn]
    · rw [if_pos hn]
      refine ih ?_ (fun p hp => hu p (by omega))
      by_cases hqn : q = n
      · rw [hqn] at hq; exact absurd hq hn
      · omega
theorem hw_po {k m : hm_M} {nc np c : Nat} (Y : hw_Y k m nc np) (hnc : nc ≤ 16) (hnp : np ≤ 16) (hc : c < nc) : (k 34 c = -1 ∧ hm_po (m 21) (nI c) np = -1) ∨ ∃ q, q < np ∧ k 34 c = nI q ∧ m 21 q = nI c ∧ hm_po (m 21) (nI c) np = nI q := by
  have key : ∀ p, p < np → m 21 p = nI c → k 34 c = nI p := fun p hp h1 => by
    rcases Y.1 p hp with ⟨h2, _⟩ | ⟨c2, h2, h3, h4, _⟩
    · rw [h1] at h2; exact absurd h2 (hm_nIm c (by omega))
    · have e : c2 = c := hm_nIinj (h3.symm.trans h1) (by omega) (by omega)
      rw [← e]; exact h4
  rcases Y.2.1 c hc with h1 | ⟨q, h1, h2, h3⟩
  · refine Or.inl ⟨h1, hw_po0 np (fun q hq z => ?_)⟩
    have e := key q hq z
    rw [h1] at e
    exact hm_nIm q (by omega) e.symm
  · refine Or.inr ⟨q, h1, h2, h3, hw_po1 h3 np h1 (fun p hp z => ?_)⟩
    exact hm_nIinj ((key p hp z).symm.trans h2) (by omega) (by omega)
theorem t_tie {d e L : Nat} {xs : Nat → Int32} {hp : hm_H} {Q : Option Value → hm_H → Prop} (S : hw_S L xs hp) {pl cc : Int32} (K : hw_K L xs 170 (e + 2) [.ref 61, .int pl, .int cc] Q) : hm_T (d + 4) 113 0 [.ref 4, .int pl, .int cc, .retAddr 0, .retAddr 0] [] hp Q := by
  obtain ⟨k, ad, w, g, nc, np, nb, m, h, n, s, rfl, H, X, R, N⟩ := S
  have hnp := X.np16
  have hnc := X.nc16
  have e21 := R.E.1 21 rfl
  by_cases c0 : (0 ≤ pl.toInt ∧ pl.toInt < np) ∧ (0 ≤ cc.toInt ∧ cc.toInt < nc)
  · obtain ⟨q, hq, rfl, _, _⟩ := hm_nIof2 c0.1.1 c0.1.2
    obtain ⟨c, hc, rfl, _, _⟩ := hm_nIof2 c0.2.1 c0.2.2
    have hpo := hw_po R.Y hnc hnp hc
    have hyq := R.Y.1 q hq
    refine s_113 X hq hc (fun c1 => ?_) (fun c1 h2 X2 hl => ?_)
    · refine hw_go K H (s_170 R.Z.1 X.nc16 R.Z.2.2.1 X.np16 hq hc ?_)
      have e : op_tie m np q c = (-1003, m) := by
        unfold op_tie
        rcases hyq with ⟨h1, h2, h3⟩ | ⟨c2, h1, h2, h3, _⟩
        · rw [h1, if_neg (by decide)]
          rcases hpo with ⟨h4, h5⟩ | ⟨q2, h4, h5, h6, h7⟩
          · exact absurd ⟨by rw [e21]; exact h1, h4, h3⟩ c1
          · rw [h7, if_neg (nI_pos (by omega))]
        · rw [h2, if_pos (nI_pos' (by omega))]
      rw [e]
      exact ⟨rfl, hw_fin H X R N⟩
    · refine hw_go K (H.lo hl) (s_170 R.Z.1 X.nc16 R.Z.2.2.1 X.np16 hq hc ?_)
      obtain ⟨c1a, c1b, c1c⟩ := c1
      rw [e21] at c1a
      have hm22 : m 22 q = 0 := by
        rcases hyq with ⟨_, h2, _⟩ | ⟨c2, _, h2, _⟩
        · exact h2
        · rw [c1a] at h2; exact absurd h2.symm (hm_nIm c2 (by omega))
      have e : op_tie m np q c = (nI 1, hm_uM m 21 (upd (m 21) q (nI c))) := by
        unfold op_tie
        rw [c1a, if_neg (by decide)]
        rcases hpo with ⟨h4, h5⟩ | ⟨q2, h4, h5, h6, h7⟩
        · rw [h5, if_pos (by decide)]
        · rw [c1b] at h5; exact absurd h5.symm (hm_nIm q2 (by omega))
      rw [e]
      dsimp only
      refine ⟨rfl, hw_fin (nb := nb) (H.lo hl) X2 ?_ N⟩
      obtain ⟨E, U, P, Lw, C, Z, B, A, Y⟩ := R
      have othk : ∀ j, ¬ j = 21 → ¬ j = 34 → hm_uM (hm_uM k 21 (upd (k 21) q (nI c))) 34 (upd (k 34) c (nI q)) j = k j := fun j h1 h2 => by rw [hm_uMo _ _ h2, hm_uMo _ _ h1]
      refine ⟨(E.u (fun _ => by rw [e21]) (fun z => absurd z (by decide))).uk rfl rfl, U.c (fun j hj => othk j (by omega) (by omega)) rfl rfl rfl rfl U.2.2.2.1, P.c (fun j hj => othk j (by omega) (by omega)) rfl, Lw.c X.p (fun j h1 h2 => othk j (by omega) (by omega)) rfl, C.c rfl rfl rfl, Z.c (fun j hj => hm_uMo _ _ (by omega)), B.c rfl, A.c rfl rfl rfl, ?_⟩
      have k34 : hm_uM (hm_uM k 21 (upd (k 21) q (nI c))) 34 (upd (k 34) c (nI q)) 34 = upd (k 34) c (nI q) := rfl
      have k33 : hm_uM (hm_uM k 21 (upd (k 21) q (nI c))) 34 (upd (k 34) c (nI q)) 33 = k 33 := rfl
      have m21 : hm_uM m 21 (upd (m 21) q (nI c)) 21 = upd (m 21) q (nI c) := rfl
      have m22 : hm_uM m 21 (upd (m 21) q (nI c)) 22 = m 22 := rfl
      have m16 : hm_uM m 21 (upd (m 21) q (nI c)) 16 = m 16 := rfl
      obtain ⟨y1, y2, y3⟩ := Y
      refine ⟨fun p hp => ?_, fun c2 hc2 => ?_, y3⟩
      · rw [k34, k33, m21, m22, m16]
        by_cases hpq : p = q
        · refine Or.inr ⟨c, hc, if_pos hpq, ?_, fun _ => by rw [hpq]; exact hm22⟩
          rw [hpq]
          exact if_pos rfl
        · rw [show upd (m 21) q (nI c) p = m 21 p from if_neg hpq]
          rcases y1 p hp with h5 | ⟨c2, h5, h6, h7, h8⟩
          · exact Or.inl h5
          · refine Or.inr ⟨c2, h5, h6, ?_, h8⟩
            have hne : ¬ c2 = c := fun z => by
              rw [z, c1b] at h7
              exact hm_nIm p (by omega) h7.symm
            exact (if_neg hne).trans h7
      · rw [k34, m21]
        by_cases hcc : c2 = c
        · exact Or.inr ⟨q, hq, if_pos hcc, by rw [hcc]; exact if_pos rfl⟩
        · rw [show upd (k 34) c (nI q) c2 = k 34 c2 from if_neg hcc]
          rcases y2 c2 hc2 with h5 | ⟨q2, h5, h6, h7⟩
          · exact Or.inl h5
          · refine Or.inr ⟨q2, h5, h6, ?_⟩
            have hne : ¬ q2 = q := fun z => by
              rw [z, c1a] at h7
              exact hm_nIm c2 (by omega) h7.symm
            exact (if_neg hne).trans h7
  · exact s_113_bad X c0 (hw_go K H (s_170_bad R.Z.1 X.nc16 R.Z.2.2.1 X.np16 c0 ⟨rfl, hw_fin H X R N⟩))
