/-! casus -/
theorem hw_fil {x b : Nat} : ∀ (k j : Nat) (m : hm_M) (i : Nat), hm_fil x b k j m x i = if b + j ≤ i ∧ i < b + j + k then -1 else m x i := by
  intro k
  induction k with
  | zero => intro j m i; exact (if_neg (by omega)).symm
  | succ k ih =>
    intro j m i
    show hm_fil x b k (j + 1) (hm_uM m x (upd (m x) (b + j) (-1))) x i = _
    rw [ih, hm_uMe]
    by_cases h1 : b + (j + 1) ≤ i ∧ i < b + (j + 1) + k
    · rw [if_pos h1, if_pos (by omega)]
    · rw [if_neg h1]
      by_cases h2 : i = b + j
      · rw [if_pos (by omega)]
        exact if_pos h2
      · rw [if_neg (by omega)]
        exact if_neg h2
theorem hw_fil_o {x b y k j : Nat} {m : hm_M} (hy : ¬ y = x) : hm_fil x b k j m y = m y := funext fun i => hm_fil_o hy k j m
theorem hw_cnt_new {P P2 : Nat → Bool} {n : Nat} (h1 : ∀ i, i < n → P2 i = P i) : ∀ j, (∀ i, n ≤ i → i < n + j → P2 i = false) → hm_cnt P2 (n + j) = hm_cnt P n := by
  intro j
  induction j with
  | zero => intro _; exact hr_cnt_c n h1
  | succ j ih =>
    intro h2
    show hm_cnt P2 (n + j) + (if P2 (n + j) = true then 1 else 0) = _
    rw [ih (fun i a b => h2 i a (by omega)), h2 (n + j) (by omega) (by omega), if_neg (by decide)]
    rfl
theorem hw_hvm (hh : Nat) (h : hh < 400) : decide ((-1 : Int32) = nI hh) = false := hr_bm h
theorem hw_cas_U {k k2 m m2 : hm_M} {nc nb : Nat} (U : hr_U k m nc nb) (hk : ∀ j, j = 31 ∨ (40 ≤ j ∧ j ≤ 45) ∨ (100 ≤ j ∧ ¬ j = 100 + 2 * nc ∧ ¬ j = 101 + 2 * nc) → k2 j = k j) (hf4 : ∀ t, t < 4 → k2 (100 + 2 * nc) t = -1) (h15 : ∀ i, m2 15 i = if 4 * nc ≤ i ∧ i < 4 * nc + 4 then -1 else m 15 i) (h3 : m2 3 = m 3) (h12 : ∀ c, c < nc → m2 12 c = m 12 c) (h13 : ∀ c, c < nc → m2 13 c = m 13 c) (h0 : m2 0 = m 0) : hr_U k2 m2 (nc + 1) nb := by
  obtain ⟨hH, hv, hd, ⟨c0, a0, b0, e0⟩, hR, hS, h31⟩ := U
  have o : ∀ i, i < 4 * nc → m2 15 i = m 15 i := fun i hi => by rw [h15, if_neg (by omega)]
  have nw : ∀ i, 4 * nc ≤ i → i < 4 * nc + 4 → m2 15 i = -1 := fun i h1 h2 => by rw [h15, if_pos ⟨h1, h2⟩]
  have cnt4 : ∀ hh, hh < 400 → hm_cnt (fun j => decide (m2 15 j = nI hh)) (4 * (nc + 1)) = hm_cnt (fun j => decide (m 15 j = nI hh)) (4 * nc) := fun hh h4 =>
    hw_cnt_new (P := fun j => decide (m 15 j = nI hh)) (P2 := fun j => decide (m2 15 j = nI hh)) (n := 4 * nc) (fun i hi => by show decide (m2 15 i = nI hh) = _; rw [o i hi]) 4 (fun i h1 h2 => by show decide (m2 15 i = nI hh) = _; rw [nw i h1 h2]; exact hw_hvm hh h4)
  have cnt1 : ∀ t, t < 4 → ∀ hh, hh < 400 → hm_cnt (fun c => decide (m2 15 (4 * c + t) = nI hh)) (nc + 1) = hm_cnt (fun c => decide (m 15 (4 * c + t) = nI hh)) nc := fun t ht hh h4 =>
    hw_cnt_new (P := fun c => decide (m 15 (4 * c + t) = nI hh)) (P2 := fun c => decide (m2 15 (4 * c + t) = nI hh)) (n := nc) (fun i hi => by show decide (m2 15 (4 * i + t) = nI hh) = _; rw [o _ (by omega)]) 1 (fun i h1 h2 => by show decide (m2 15 (4 * i + t) = nI hh) = _; rw [nw _ (by omega) (by omega)]; exact hw_hvm hh h4)
  refine ⟨fun c hc t ht => ?_, fun j hj => ?_, fun c hc t u ht hu htu e => ?_, ⟨c0, by rw [h0]; exact a0, b0, fun hh h4 => by rw [cnt4 hh h4]; exact e0 hh h4⟩, fun hh h4 => ?_, fun hh h4 => ?_, ?_⟩
  · by_cases hcn : c = nc
    · rw [hcn, hf4 t ht, nw _ (by omega) (by omega)]
    · rw [hk _ (by omega), o _ (by omega)]
      exact hH c (by omega) t ht
  · by_cases hj2 : j < 4 * nc
    · rw [o j hj2]; exact hv j hj2
    · rw [nw j (by omega) (by omega)]; exact Or.inl rfl
  · by_cases hcn : c = nc
    · rw [hcn, nw _ (by omega) (by omega)]
    · rw [o _ (by omega), o _ (by omega)] at e
      rw [o _ (by omega)]
      exact hd c (by omega) t u ht hu htu e
  · obtain ⟨r0, r1, r2, r3, r4, r5⟩ := hR hh h4
    rw [hk 40 (by omega), hk 41 (by omega), hk 42 (by omega), hk 43 (by omega), hk 44 (by omega), hk 45 (by omega), cnt4 hh h4, cnt1 1 (by decide) hh h4, cnt1 2 (by decide) hh h4]
    refine ⟨r0, r1, r2, ?_, ?_, r5⟩
    · rw [r3]
      congr 1
      refine (hw_cnt_new (n := nc) (fun i hi => ?_) 1 (fun i h1 h2 => ?_)).symm
      · rw [o _ (by omega), o _ (by omega), o _ (by omega)]
      · rw [nw _ (by omega) (by omega)]
        rfl
    · rw [r4]
      show _ = hm_sg (hm_car m2 (nI hh)) nc + hm_car m2 (nI hh) nc
      have e1 : hm_car m2 (nI hh) nc = 0 := by
        unfold hm_car
        rw [nw _ (by omega) (by omega), nw _ (by omega) (by omega)]
        have hne : ¬ (-1 : Int32) = nI hh := of_decide_eq_false (hw_hvm hh h4)
        rw [if_neg hne, if_pos hne]
        rfl
      rw [e1, Int32.add_zero]
      refine (hr_sg_c nc (fun x hx => ?_)).symm
      unfold hm_car
      rw [o _ (by omega), o _ (by omega), h12 x hx]
  · have e1 : hc_wl k2 (nI hh) (nc + 1) = hc_wl k2 (nI hh) nc := by
      refine if_neg (fun z => ?_)
      unfold hc_car at z
      rw [decide_eq_true_iff, hf4 1 (by decide), hf4 3 (by decide)] at z
      have hne : ¬ (-1 : Int32) = nI hh := of_decide_eq_false (hw_hvm hh h4)
      exact z.elim hne hne
    have e2 : hc_wl k2 (nI hh) nc = hc_wl k (nI hh) nc := hr_same nc (fun x hx => by unfold hc_car; rw [hk _ (by omega)])
    rw [e1, e2]
    have e3 : (hc_wl k (nI hh) nc).map (hr_F m2 (nc + 1) nb) = (hc_wl k (nI hh) nc).map (hr_F m nc nb) := List.map_congr_left (fun c hc => by
      have hcn := ((hc_wl_mem nc c).mp hc).1
      rw [hr_F_lt hcn, hr_F_lt (show c < nc + 1 by omega), h3, h12 c hcn, h13 c hcn])
    rw [e3]
    exact hS hh h4
  · rw [hk 31 (by omega), h31]
    congr 1
    exact (hw_cnt_new (P := fun j => decide (¬ m 15 j < 0)) (P2 := fun j => decide (¬ m2 15 j < 0)) (n := 4 * nc) (fun i hi => by show decide (¬ m2 15 i < 0) = _; rw [o i hi]) 4 (fun i h1 h2 => by show decide (¬ m2 15 i < 0) = _; rw [nw i h1 h2]; rfl)).symm
theorem t_casus {d e L : Nat} {xs : Nat → Int32} {hp : hm_H} {Q : Option Value → hm_H → Prop} (S : hw_S L xs hp) {f de ne sp : Int32} (K : hw_K L xs 145 (e + 2) [.ref 61, .int f, .int de, .int ne, .int sp, .retAddr 0, .retAddr 0] Q) : hm_T (d + 9) 63 0 [.ref 4, .int f, .int de, .int ne, .int sp] [] hp Q := by
  obtain ⟨k, ad, w, g, nc, np, nb, m, h, n, s, rfl, H, X, R, N⟩ := S
  have hnc := X.nc16
  have hnp := X.np16
  have ez : m 9 0 = nI nc := R.Z.1
  by_cases c1 : 0 ≤ f.toInt ∧ f.toInt ≤ 3
  · by_cases c2 : (0 ≤ de.toInt ∧ de.toInt ≤ 399) ∧ (0 ≤ ne.toInt ∧ ne.toInt ≤ 6) ∧ (0 ≤ sp.toInt ∧ sp.toInt ≤ 70)
    · by_cases c3 : nc = 16
      · refine s_63_full X c1 c2 c3 (hw_go K H (s_145 ez X.nc16 ?_))
        have e : op_casus m f de ne sp = (-1004, m) := by
          unfold op_casus
          rw [if_pos c1, if_pos c2.1, if_pos c2.2.1, if_pos c2.2.2, if_pos (by rw [ez, c3])]
        rw [e]
        exact ⟨rfl, hw_fin H X R N⟩
      · refine s_63 X N.1 c1 c2 (by omega) (fun f6 f4 A2 g2 h2 n2 s2 hf6 hf4 X2 hl hA n3 n4 s3 s4 => ?_)
        refine hw_go K (H.lo hl) (s_145 ez X.nc16 ?_)
        have e : op_casus m f de ne sp = (nI nc, hm_uM (hm_cas m nc f de ne sp) 9 (fun _ => nI (nc + 1))) := by
          unfold op_casus
          rw [if_pos c1, if_pos c2.1, if_pos c2.2.1, if_pos c2.2.2, if_neg (by rw [ez]; exact fun z => c3 (hm_nIinj z (by omega) (by omega))), ez, nI_clamp (by omega), nI_add]
        rw [e]
        dsimp only
        have hA0 : A2 0 = ad 0 := (hA 0 (by decide)).trans (funext fun j => if_neg (by omega))
        obtain ⟨m2, hm2⟩ : ∃ m2, m2 = hm_uM (hm_cas m nc f de ne sp) 9 (fun _ => nI (nc + 1)) := ⟨_, rfl⟩
        obtain ⟨k2, hk2⟩ : ∃ k2, k2 = hm_uM (hm_uM (hc_kc k nc f de ne sp f6 f4) 52 (fun _ => k 52 0 + nI 1)) 9 (fun _ => nI (nc + 1)) := ⟨_, rfl⟩
        rw [← hm2]
        rw [← hk2] at X2 ⊢
        have mo : ∀ j, ¬ j = 9 → ¬ j = 14 → ¬ j = 15 → m2 j = hm_uM (hm_uM (hm_uM (hm_uM m 10 (upd (m 10) nc f)) 11 (upd (m 11) nc de)) 12 (upd (m 12) nc ne)) 13 (upd (m 13) nc sp) j := fun j a1 a2 a3 => by
          rw [hm2, hm_uMo _ _ a1]
          unfold hm_cas
          rw [hw_fil_o a3, hw_fil_o a2]
        have oth : ∀ j, ¬ j = 9 → ¬ j = 14 → ¬ j = 15 → ¬ j = 10 → ¬ j = 11 → ¬ j = 12 → ¬ j = 13 → m2 j = m j := fun j a1 a2 a3 a4 a5 a6 a7 => by
          rw [mo j a1 a2 a3, hm_uMo _ _ a7, hm_uMo _ _ a6, hm_uMo _ _ a5, hm_uMo _ _ a4]
        have m15 : ∀ i, m2 15 i = if 4 * nc ≤ i ∧ i < 4 * nc + 4 then -1 else m 15 i := fun i => by
          rw [hm2, hm_uMo _ _ (by decide)]
          unfold hm_cas
          rw [hw_fil, hw_fil_o (by decide)]
          rfl
        have m14 : ∀ i, m2 14 i = if 6 * nc ≤ i ∧ i < 6 * nc + 6 then -1 else m 14 i := fun i => by
          rw [hm2, hm_uMo _ _ (by decide)]
          unfold hm_cas
          rw [hw_fil_o (by decide), hw_fil]
          rfl
        have m10 : m2 10 = upd (m 10) nc f := (mo 10 (by decide) (by decide) (by decide)).trans rfl
        have m11 : m2 11 = upd (m 11) nc de := (mo 11 (by decide) (by decide) (by decide)).trans rfl
        have m12 : m2 12 = upd (m 12) nc ne := (mo 12 (by decide) (by decide) (by decide)).trans rfl
        have m13 : m2 13 = upd (m 13) nc sp := (mo 13 (by decide) (by decide) (by decide)).trans rfl
        have ko : ∀ j, ¬ j = 9 → ¬ j = 52 → ¬ j = 100 + 2 * nc → ¬ j = 101 + 2 * nc → k2 j = hc_kc0 k nc f de ne sp j := fun j a1 a2 a3 a4 => by
          rw [hk2, hm_uMo _ _ a1, hm_uMo _ _ a2]
          unfold hc_kc
          rw [hm_uMo _ _ a4, hm_uMo _ _ a3]
        have othk : ∀ j, ¬ j = 9 → ¬ j = 52 → ¬ j = 100 + 2 * nc → ¬ j = 101 + 2 * nc → ¬ j = 10 → ¬ j = 11 → ¬ j = 12 → ¬ j = 13 → ¬ j = 34 → ¬ j = 16 → k2 j = k j := fun j a1 a2 a3 a4 b1 b2 b3 b4 b5 b6 => by
          rw [ko j a1 a2 a3 a4]
          unfold hc_kc0
          rw [hm_uMo _ _ b6, hm_uMo _ _ b5, hm_uMo _ _ b4, hm_uMo _ _ b3, hm_uMo _ _ b2, hm_uMo _ _ b1]
        have kf4 : k2 (100 + 2 * nc) = f4 := by
          rw [hk2, hm_uMo _ _ (by omega), hm_uMo _ _ (by omega)]
          unfold hc_kc
          rw [hm_uMo _ _ (by omega), hm_uMe]
        have kf6 : k2 (101 + 2 * nc) = f6 := by
          rw [hk2, hm_uMo _ _ (by omega), hm_uMo _ _ (by omega)]
          unfold hc_kc
          rw [hm_uMe]
        have k10 : k2 10 = upd (k 10) nc f := (ko 10 (by decide) (by decide) (by omega) (by omega)).trans rfl
        have k11 : k2 11 = upd (k 11) nc de := (ko 11 (by decide) (by decide) (by omega) (by omega)).trans rfl
        have k12 : k2 12 = upd (k 12) nc ne := (ko 12 (by decide) (by decide) (by omega) (by omega)).trans rfl
        have k13 : k2 13 = upd (k 13) nc sp := (ko 13 (by decide) (by decide) (by omega) (by omega)).trans rfl
        have k34 : k2 34 = upd (k 34) nc (-1) := (ko 34 (by decide) (by decide) (by omega) (by omega)).trans rfl
        have k16 : k2 16 = upd (k 16) nc (nI 0) := (ko 16 (by decide) (by decide) (by omega) (by omega)).trans rfl
        refine ⟨rfl, hw_fin (nc := nc + 1) (nb := nb) (H.lo hl) X2 ?_ ?_⟩
        rotate_left
        · obtain ⟨n5, n6, n7⟩ := N
          exact ⟨by omega, by omega, by omega⟩
        obtain ⟨E, U, P, Lw, C, Z, B, A, Y⟩ := R
        obtain ⟨z1, z2, z3, z4, z5, z6, z7⟩ := Z
        refine ⟨⟨fun j hj => ?_, fun j hj => ?_⟩, hw_cas_U U (fun j hj => othk j (by omega) (by omega) (by omega) (by omega) (by omega) (by omega) (by omega) (by omega) (by omega) (by omega)) (fun t ht => by rw [kf4]; exact hf4 t ht) m15 (oth 3 (by decide) (by decide) (by decide) (by decide) (by decide) (by decide) (by decide)) (fun c hc => by rw [m12]; exact if_neg (by omega)) (fun c hc => by rw [m13]; exact if_neg (by omega)) (oth 0 (by decide) (by decide) (by decide) (by decide) (by decide) (by decide) (by decide)), fun c hc i hi => ?_, fun f hf t ht i hi => ?_, ⟨C.1, ?_, fun c hc => ?_, fun c hc => ?_⟩, ⟨?_, by omega, ?_, z4, ?_, ?_, fun c hc => ?_⟩, B.c (oth 4 (by decide) (by decide) (by decide) (by decide) (by decide) (by decide) (by decide)), fun c hc => ?_, ?_⟩
        · by_cases j10 : j = 10
          · rw [j10, k10, m10, E.1 10 rfl]
          by_cases j11 : j = 11
          · rw [j11, k11, m11, E.1 11 rfl]
          by_cases j12 : j = 12
          · rw [j12, k12, m12, E.1 12 rfl]
          by_cases j13 : j = 13
          · rw [j13, k13, m13, E.1 13 rfl]
          by_cases j16 : j = 16
          · rw [j16, k16, oth 16 (by decide) (by decide) (by decide) (by decide) (by decide) (by decide) (by decide), E.1 16 rfl]
            funext i
            by_cases hi : i = nc
            · rw [hi, z7 nc (by omega)]
              exact if_pos rfl
            · exact if_neg hi
          have hj2 := of_decide_eq_true hj
          rw [othk j (by omega) (by omega) (by omega) (by omega) j10 j11 j12 j13 (by omega) j16, oth j (by omega) (by omega) (by omega) j10 j11 j12 j13]
          exact E.1 j hj
        · have hj2 := of_decide_eq_true hj
          rw [othk j (by omega) (by omega) (by omega) (by omega) (by omega) (by omega) (by omega) (by omega) (by omega) (by omega), oth j (by omega) (by omega) (by omega) (by omega) (by omega) (by omega) (by omega)]
          exact E.2 j hj
        · by_cases hcn : c = nc
          · rw [hcn, kf6, hf6 i hi, m14, if_pos (by omega)]
          · rw [othk _ (by omega) (by omega) (by omega) (by omega) (by omega) (by omega) (by omega) (by omega) (by omega) (by omega), m14, if_neg (by omega)]
            exact P c (by omega) i hi
        · rw [hA0]
          have hp5 := X.p f (by omega)
          rw [othk _ (by omega) (by omega) (by omega) (by omega) (by omega) (by omega) (by omega) (by omega) (by omega) (by omega), oth 4 (by decide) (by decide) (by decide) (by decide) (by decide) (by decide) (by decide)]
          exact Lw f hf t ht i hi
        · rw [oth 3 (by decide) (by decide) (by decide) (by decide) (by decide) (by decide) (by decide)]
          exact C.2.1
        · rw [m12]
          by_cases hcn : c = nc
          · obtain ⟨x, h1, h2, _, _⟩ := hm_nIof2 (x := ne) (N := 7) (by omega) (by omega)
            exact ⟨x, (if_pos hcn).trans h2, by omega⟩
          · rw [show upd (m 12) nc ne c = m 12 c from if_neg hcn]
            exact C.2.2.1 c (by omega)
        · rw [m13]
          by_cases hcn : c = nc
          · obtain ⟨x, h1, h2, _, _⟩ := hm_nIof2 (x := sp) (N := 71) (by omega) (by omega)
            exact ⟨x, (if_pos hcn).trans h2, by omega⟩
          · rw [show upd (m 13) nc sp c = m 13 c from if_neg hcn]
            exact C.2.2.2 c (by omega)
        · rw [hm2]
          rfl
        · rw [oth 18 (by decide) (by decide) (by decide) (by decide) (by decide) (by decide) (by decide)]; exact z3
        · rw [oth 2 (by decide) (by decide) (by decide) (by decide) (by decide) (by decide) (by decide)]; exact z5
        · rw [oth 7 (by decide) (by decide) (by decide) (by decide) (by decide) (by decide) (by decide), oth 6 (by decide) (by decide) (by decide) (by decide) (by decide) (by decide) (by decide)]; exact z6
        · rw [oth 16 (by decide) (by decide) (by decide) (by decide) (by decide) (by decide) (by decide)]
          exact z7 c (by omega)
        · rw [m10, m11]
          by_cases hcn : c = nc
          · obtain ⟨x, h1, h2, _, _⟩ := hm_nIof2 (x := f) (N := 4) (by omega) (by omega)
            obtain ⟨y, h3, h4, _, _⟩ := hm_nIof2 (x := de) (N := 400) (by omega) (by omega)
            refine ⟨⟨x, (if_pos hcn).trans h2, by omega⟩, ⟨y, (if_pos hcn).trans h4, by omega⟩, fun i hi => ?_⟩
            rw [m14, if_pos (by omega)]
            exact Or.inl rfl
          · rw [show upd (m 10) nc f c = m 10 c from if_neg hcn, show upd (m 11) nc de c = m 11 c from if_neg hcn]
            have a := A c (by omega)
            refine ⟨a.1, a.2.1, fun i hi => ?_⟩
            rw [m14, if_neg (by omega)]
            exact a.2.2 i hi
        · obtain ⟨y1, y2, y3⟩ := Y
          have m21 : m2 21 = m 21 := oth 21 (by decide) (by decide) (by decide) (by decide) (by decide) (by decide) (by decide)
          have m22 : m2 22 = m 22 := oth 22 (by decide) (by decide) (by decide) (by decide) (by decide) (by decide) (by decide)
          have m16 : m2 16 = m 16 := oth 16 (by decide) (by decide) (by decide) (by decide) (by decide) (by decide) (by decide)
          have k33 : k2 33 = k 33 := othk 33 (by decide) (by decide) (by omega) (by omega) (by decide) (by decide) (by decide) (by decide) (by decide) (by decide)
          have k32 : k2 32 = k 32 := othk 32 (by decide) (by decide) (by omega) (by omega) (by decide) (by decide) (by decide) (by decide) (by decide) (by decide)
          refine ⟨fun q hq => ?_, fun c hc => ?_, by rw [k32, m22]; exact y3⟩
          · rw [m21, m22, m16, k33, k34]
            rcases y1 q hq with h5 | ⟨c, h5, h6, h7, h8⟩
            · exact Or.inl h5
            · exact Or.inr ⟨c, by omega, h6, (if_neg (by omega)).trans h7, h8⟩
          · rw [m21, k34]
            by_cases hcn : c = nc
            · exact Or.inl (if_pos hcn)
            · rw [show upd (k 34) nc (-1) c = k 34 c from if_neg hcn]
              exact y2 c (by omega)
    · refine s_63_out c1 c2 (hw_go K H (s_145 ez X.nc16 ?_))
      have e : op_casus m f de ne sp = (-1002, m) := by
        unfold op_casus
        rw [if_pos c1]
        by_cases d1 : 0 ≤ de.toInt ∧ de.toInt ≤ 399
        · rw [if_pos d1]
          by_cases d2 : 0 ≤ ne.toInt ∧ ne.toInt ≤ 6
          · rw [if_pos d2, if_neg (fun d3 => c2 ⟨d1, d2, d3⟩)]
          · rw [if_neg d2]
        · rw [if_neg d1]
      rw [e]
      exact ⟨rfl, hw_fin H X R N⟩
  · refine s_63_bad c1 (hw_go K H (s_145 ez X.nc16 ?_))
    have e : op_casus m f de ne sp = (-1001, m) := if_neg c1
    rw [e]
    exact ⟨rfl, hw_fin H X R N⟩
