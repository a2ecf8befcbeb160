theorem hc_J_rs {k : hm_M} {q a aw cl bd : Nat} {seen : Int32} {F : Nat → Int32} (J : hc_J k q a aw cl bd seen F) : k 47 0 = nI a ∧ k 46 0 = nI aw ∧ aw < 4 := ⟨J.1.1, J.1.2.1, J.1.2.2.1⟩
set_option maxRecDepth 20000 in
theorem l_27 {d n s : Nat} {ad : hm_AD} {w : hm_W} {h : Nat → Option va_E} {Q : Option Value → hm_H → Prop} {k0 : hm_M} {q N : Nat} {T : Nat → Int32} (hq : q < 5) (hN1 : N ≤ 100) {R : hm_PR} (hQ0 : R.1 = nI 0 → ∀ k2, hc_rs q k0 k2 → hc_LF k2 q R.2.2 → k2 8 0 = -1 → Q (some (.int (nI 0))) (hm_hC k2 ad w h n s)) (hQ1 : ∀ f, 0 < f → f < 6 → R.1 = nI f → ∀ k2, hc_rs q k0 k2 → k2 8 0 = R.2.1 → Q (some (.int (nI f))) (hm_hC k2 ad w h n s)) : ∀ (r a aw cl bd : Nat) (seen : Int32) (F : Nat → Int32) (k : hm_M) (rd : Nat) (v4 : Value), N - a = r → hc_rs q k0 k → hc_J k q a aw cl bd seen F → rd ≤ a → a ≤ N → k 7 0 = nI N → k 8 0 = -1 → k 6 = T → hm_A T N a aw cl bd seen F = R → hm_T (d + 3) 27 26 [.ref 27, .ref 25, .ref (hm_lb q), .int (nI rd), v4] [] (hm_hC k ad w h n s) Q := by
  intro r
  induction r using Nat.strongRecOn with
  | ind r ih =>
    intro a aw cl bd seen F k rd v4 hr hrs J hrd haN hN h8 h6 hA
    subst hr
    have h6b := h6
    obtain ⟨j47, j46, haw⟩ := hc_J_rs J
    rcases Nat.lt_or_ge a N with hlt | hge
    · skip
      refine r_iload_n k_27_26 rfl ?_
      refine r_bipush k_27_27 cb_100 ?_
      refine r_icmp_ge k_27_29 rfl (fun z => absurd z (nI_ge (show rd < 100 by omega) (by omega))) (fun c_29 => ?_)
      refine r_aload_n k_27_32 rfl ?_
      refine r_get m_27 k_27_33 fl_3_26 rfl rfl ?_
      rw [j47]
      refine r_aload_n k_27_36 rfl ?_
      refine r_get m_27 k_27_37 fl_3_29 rfl rfl ?_
      rw [hN]
      refine r_icmp_ge k_27_40 rfl (fun z => absurd z (nI_ge hlt (by omega))) (fun c_40 => ?_)
      refine r_aload_n k_27_43 rfl ?_
      refine r_aload_n k_27_44 rfl ?_
      refine r_get m_27 k_27_45 fl_3_26 rfl rfl ?_
      rw [j47]
      refine r_callv2 m_27 k_27_48 cl_3_34 m_28 (by decide) rfl rfl (Nat.le_of_ble_eq_true rfl) (Nat.le_of_ble_eq_true rfl) rfl rfl ?_
      refine s_28 hN hN1 (a := a) (by omega) ?_
      rw [show hm_c (k 6) N a = k 6 a from if_pos hlt, h6]
      refine r_bipush k_27_51 cb_32 ?_
      refine r_icmp_ne k_27_53 rfl (fun c_53 => ?_) (fun c_53 => ?_)
      · have hbl : ¬ T a = nI 32 := c_53
        refine r_aload_n k_27_63 rfl ?_
        refine r_aload_n k_27_64 rfl ?_
        refine r_aload_n k_27_65 rfl ?_
        refine r_callv3 m_27 k_27_66 cl_3_42 m_30 (by decide) rfl rfl (Nat.le_of_ble_eq_true rfl) (Nat.le_of_ble_eq_true rfl) rfl rfl ?_
        have h4 : aw = 0 ∨ aw = 1 ∨ aw = 2 ∨ aw = 3 := by omega
        rcases h4 with rfl | rfl | rfl | rfl
        · refine s_30_0 hq hN hN1 J hlt (by rw [h6]; exact hbl) (fun f hf hf6 e => ?_) (fun k2 a2 aw2 cl2 bd2 seen2 F2 r2 r8 J2 hlt2 ha2 e => ?_) <;> rw [h6] at e
          · have hA2 : (nI f, nI a, F) = R := by rw [← hA, e]
            refine r_istore k_27_69 rfl ?_
            refine r_iload k_27_71 rfl ?_
            refine r_if_eq k_27_73 rfl (fun z => absurd z (fun z => absurd (hm_nIinj (b := 0) z (by omega)) (by omega))) (fun c_73 => ?_)
            refine r_aload_n k_27_76 rfl ?_
            refine r_aload_n k_27_77 rfl ?_
            refine r_get m_27 k_27_78 fl_3_26 rfl rfl ?_
            rw [j47]
            refine r_put m_27 k_27_81 fl_3_9 rfl (Nat.le_of_ble_eq_true rfl) rfl rfl (wC_8 _) ?_
            refine r_iload k_27_84 rfl ?_
            exact hm_T.ret m_27 k_27_86 rfl (by subst hA2; exact hQ1 f hf hf6 rfl _ (hrs.tr (hc_rs.u (Or.inl rfl))) rfl)
          · have hA2 := e
            refine r_istore k_27_69 rfl ?_
            refine r_iload k_27_71 rfl ?_
            refine r_if_eq k_27_73 rfl (fun c_73 => ?_) (fun z => absurd rfl z)
            refine r_iincn k_27_87 rfl (nI_inc rd) rfl ?_
            refine r_goto k_27_90 rfl ?_
            exact ih (N - a2) (by omega) a2 aw2 cl2 bd2 seen2 F2 k2 (rd + 1) _ rfl (hrs.tr r2) J2 (by omega) ha2 (by rw [r2 7 (by decide) (by decide) (by omega)]; exact hN) (by rw [r8]; exact h8) ((r2 6 (by decide) (by decide) (by omega)).trans h6) (hA2.symm.trans hA)
        · refine s_30_1 hq hN hN1 J hlt (by rw [h6]; exact hbl) (fun f hf hf6 e => ?_) (fun k2 a2 aw2 cl2 bd2 seen2 F2 r2 r8 J2 hlt2 ha2 e => ?_) <;> rw [h6] at e
          · have hA2 : (nI f, nI a, F) = R := by rw [← hA, e]
            refine r_istore k_27_69 rfl ?_
            refine r_iload k_27_71 rfl ?_
            refine r_if_eq k_27_73 rfl (fun z => absurd z (fun z => absurd (hm_nIinj (b := 0) z (by omega)) (by omega))) (fun c_73 => ?_)
            refine r_aload_n k_27_76 rfl ?_
            refine r_aload_n k_27_77 rfl ?_
            refine r_get m_27 k_27_78 fl_3_26 rfl rfl ?_
            rw [j47]
            refine r_put m_27 k_27_81 fl_3_9 rfl (Nat.le_of_ble_eq_true rfl) rfl rfl (wC_8 _) ?_
            refine r_iload k_27_84 rfl ?_
            exact hm_T.ret m_27 k_27_86 rfl (by subst hA2; exact hQ1 f hf hf6 rfl _ (hrs.tr (hc_rs.u (Or.inl rfl))) rfl)
          · have hA2 := e
            refine r_istore k_27_69 rfl ?_
            refine r_iload k_27_71 rfl ?_
            refine r_if_eq k_27_73 rfl (fun c_73 => ?_) (fun z => absurd rfl z)
            refine r_iincn k_27_87 rfl (nI_inc rd) rfl ?_
            refine r_goto k_27_90 rfl ?_
            exact ih (N - a2) (by omega) a2 aw2 cl2 bd2 seen2 F2 k2 (rd + 1) _ rfl (hrs.tr r2) J2 (by omega) ha2 (by rw [r2 7 (by decide) (by decide) (by omega)]; exact hN) (by rw [r8]; exact h8) ((r2 6 (by decide) (by decide) (by omega)).trans h6) (hA2.symm.trans hA)
        · refine s_30_2 hq hN hN1 J hlt (by rw [h6]; exact hbl) (fun f hf hf6 e => ?_) (fun k2 a2 aw2 cl2 bd2 seen2 F2 r2 r8 J2 hlt2 ha2 e => ?_) <;> rw [h6] at e
          · have hA2 : (nI f, nI a, F) = R := by rw [← hA, e]
            refine r_istore k_27_69 rfl ?_
            refine r_iload k_27_71 rfl ?_
            refine r_if_eq k_27_73 rfl (fun z => absurd z (fun z => absurd (hm_nIinj (b := 0) z (by omega)) (by omega))) (fun c_73 => ?_)
            refine r_aload_n k_27_76 rfl ?_
            refine r_aload_n k_27_77 rfl ?_
            refine r_get m_27 k_27_78 fl_3_26 rfl rfl ?_
            rw [j47]
            refine r_put m_27 k_27_81 fl_3_9 rfl (Nat.le_of_ble_eq_true rfl) rfl rfl (wC_8 _) ?_
            refine r_iload k_27_84 rfl ?_
            exact hm_T.ret m_27 k_27_86 rfl (by subst hA2; exact hQ1 f hf hf6 rfl _ (hrs.tr (hc_rs.u (Or.inl rfl))) rfl)
          · have hA2 := e
            refine r_istore k_27_69 rfl ?_
            refine r_iload k_27_71 rfl ?_
            refine r_if_eq k_27_73 rfl (fun c_73 => ?_) (fun z => absurd rfl z)
            refine r_iincn k_27_87 rfl (nI_inc rd) rfl ?_
            refine r_goto k_27_90 rfl ?_
            exact ih (N - a2) (by omega) a2 aw2 cl2 bd2 seen2 F2 k2 (rd + 1) _ rfl (hrs.tr r2) J2 (by omega) ha2 (by rw [r2 7 (by decide) (by decide) (by omega)]; exact hN) (by rw [r8]; exact h8) ((r2 6 (by decide) (by decide) (by omega)).trans h6) (hA2.symm.trans hA)
        · refine s_30_3 hq hN hN1 J hlt (by rw [h6]; exact hbl) (fun f hf hf6 e => ?_) (fun k2 a2 aw2 cl2 bd2 seen2 F2 r2 r8 J2 hlt2 ha2 e => ?_) <;> rw [h6] at e
          · have hA2 : (nI f, nI a, F) = R := by rw [← hA, e]
            refine r_istore k_27_69 rfl ?_
            refine r_iload k_27_71 rfl ?_
            refine r_if_eq k_27_73 rfl (fun z => absurd z (fun z => absurd (hm_nIinj (b := 0) z (by omega)) (by omega))) (fun c_73 => ?_)
            refine r_aload_n k_27_76 rfl ?_
            refine r_aload_n k_27_77 rfl ?_
            refine r_get m_27 k_27_78 fl_3_26 rfl rfl ?_
            rw [j47]
            refine r_put m_27 k_27_81 fl_3_9 rfl (Nat.le_of_ble_eq_true rfl) rfl rfl (wC_8 _) ?_
            refine r_iload k_27_84 rfl ?_
            exact hm_T.ret m_27 k_27_86 rfl (by subst hA2; exact hQ1 f hf hf6 rfl _ (hrs.tr (hc_rs.u (Or.inl rfl))) rfl)
          · have hA2 := e
            refine r_istore k_27_69 rfl ?_
            refine r_iload k_27_71 rfl ?_
            refine r_if_eq k_27_73 rfl (fun c_73 => ?_) (fun z => absurd rfl z)
            refine r_iincn k_27_87 rfl (nI_inc rd) rfl ?_
            refine r_goto k_27_90 rfl ?_
            exact ih (N - a2) (by omega) a2 aw2 cl2 bd2 seen2 F2 k2 (rd + 1) _ rfl (hrs.tr r2) J2 (by omega) ha2 (by rw [r2 7 (by decide) (by decide) (by omega)]; exact hN) (by rw [r8]; exact h8) ((r2 6 (by decide) (by decide) (by omega)).trans h6) (hA2.symm.trans hA)
      · have c_53 := Decidable.of_not_not c_53
        refine r_aload_n k_27_56 rfl ?_
        refine r_callv1 m_27 k_27_57 cl_3_38 m_29 (by decide) rfl rfl (Nat.le_of_ble_eq_true rfl) (Nat.le_of_ble_eq_true rfl) rfl rfl ?_
        refine s_29 ?_
        refine r_goto k_27_60 rfl ?_
        refine r_istore k_27_69 rfl ?_
        refine r_iload k_27_71 rfl ?_
        refine r_if_eq k_27_73 rfl (fun c_73 => ?_) (fun z => absurd rfl z)
        refine r_iincn k_27_87 rfl (nI_inc rd) rfl ?_
        refine r_goto k_27_90 rfl ?_
        exact ih (N - (a + 1)) (by omega) (a + 1) aw cl bd seen F _ (rd + 1) _ rfl (hrs.tr (hc_rs.u (Or.inr (Or.inl (by omega))))) (hc_J_skip J) (by omega) (by omega) hN h8 h6 (by
          rw [hm_A_eq] at hA
          unfold hm_ab at hA
          rw [if_pos hlt, if_pos c_53] at hA
          exact hA)
    · skip
      refine r_iload_n k_27_26 rfl ?_
      refine r_bipush k_27_27 cb_100 ?_
      refine r_icmp_ge k_27_29 rfl (fun c_29 => ?_) (fun c_29 => ?_)
      · skip
        refine r_aload_n k_27_93 rfl ?_
        refine r_get m_27 k_27_94 fl_3_20 rfl rfl ?_
        rw [j46]
        refine r_if_eq k_27_97 rfl (fun c_97 => ?_) (fun c_97 => ?_)
        · have hz : aw = 0 := hm_nIinj (b := 0) c_97 (by omega)
          refine r_iconst k_27_110 ci_0 ?_
          exact hm_T.ret m_27 k_27_111 rfl (by rw [hm_A_eq, hm_ab_end hge, if_pos hz] at hA; subst hA; exact hQ0 rfl k hrs J.2.1 h8)
        · have hz : ¬ aw = 0 := fun z => c_97 (congrArg nI z)
          refine r_aload_n k_27_100 rfl ?_
          refine r_aload_n k_27_101 rfl ?_
          refine r_get m_27 k_27_102 fl_3_29 rfl rfl ?_
          rw [hN]
          refine r_put m_27 k_27_105 fl_3_9 rfl (Nat.le_of_ble_eq_true rfl) rfl rfl (wC_8 _) ?_
          refine r_iconst k_27_108 ci_1 ?_
          exact hm_T.ret m_27 k_27_109 rfl (by rw [hm_A_eq, hm_ab_end hge, if_neg hz] at hA; subst hA; exact hQ1 1 (by decide) (by decide) rfl _ (hrs.tr (hc_rs.u (Or.inl rfl))) rfl)
      · refine r_aload_n k_27_32 rfl ?_
        refine r_get m_27 k_27_33 fl_3_26 rfl rfl ?_
        rw [j47]
        refine r_aload_n k_27_36 rfl ?_
        refine r_get m_27 k_27_37 fl_3_29 rfl rfl ?_
        rw [hN]
        refine r_icmp_ge k_27_40 rfl (fun c_40 => ?_) (fun z => absurd (nI_le hge (by omega)) z)
        skip
        refine r_aload_n k_27_93 rfl ?_
        refine r_get m_27 k_27_94 fl_3_20 rfl rfl ?_
        rw [j46]
        refine r_if_eq k_27_97 rfl (fun c_97 => ?_) (fun c_97 => ?_)
        · have hz : aw = 0 := hm_nIinj (b := 0) c_97 (by omega)
          refine r_iconst k_27_110 ci_0 ?_
          exact hm_T.ret m_27 k_27_111 rfl (by rw [hm_A_eq, hm_ab_end hge, if_pos hz] at hA; subst hA; exact hQ0 rfl k hrs J.2.1 h8)
        · have hz : ¬ aw = 0 := fun z => c_97 (congrArg nI z)
          refine r_aload_n k_27_100 rfl ?_
          refine r_aload_n k_27_101 rfl ?_
          refine r_get m_27 k_27_102 fl_3_29 rfl rfl ?_
          rw [hN]
          refine r_put m_27 k_27_105 fl_3_9 rfl (Nat.le_of_ble_eq_true rfl) rfl rfl (wC_8 _) ?_
          refine r_iconst k_27_108 ci_1 ?_
          exact hm_T.ret m_27 k_27_109 rfl (by rw [hm_A_eq, hm_ab_end hge, if_neg hz] at hA; subst hA; exact hQ1 1 (by decide) (by decide) rfl _ (hrs.tr (hc_rs.u (Or.inl rfl))) rfl)
set_option maxRecDepth 20000 in
theorem s_27 {d n s : Nat} {k : hm_M} {ad : hm_AD} {w : hm_W} {h : Nat → Option va_E} {Q : Option Value → hm_H → Prop} {q N : Nat} (hq : q < 5) (hN : k 7 0 = nI N) (hN1 : N ≤ 100) {F : Nat → Int32} (hF0 : ∀ t, t < 4 → ∀ i, i < 5 → F (5 * t + i) = hc_f0 i) {R : hm_PR} (hA : hm_A (k 6) N 0 0 0 0 (nI 0) F = R) (hQ0 : R.1 = nI 0 → ∀ k2, hc_rs q k k2 → hc_LF k2 q R.2.2 → k2 8 0 = -1 → Q (some (.int (nI 0))) (hm_hC k2 ad w h n s)) (hQ1 : ∀ f, 0 < f → f < 6 → R.1 = nI f → ∀ k2, hc_rs q k k2 → k2 8 0 = R.2.1 → Q (some (.int (nI f))) (hm_hC k2 ad w h n s)) : hm_T (d + 3) 27 0 [.ref 27, .ref 25, .ref (hm_lb q), .retAddr 0, .retAddr 0] [] (hm_hC k ad w h n s) Q := by
  refine r_aload_n k_27_0 rfl ?_
  refine r_callv1 m_27 k_27_1 cl_3_15 m_7 (by decide) rfl rfl (Nat.le_of_ble_eq_true rfl) (Nat.le_of_ble_eq_true rfl) (rC_l0 hq) rfl ?_
  refine s_7 hq (fun k1 r1 f1 => ?_)
  refine r_aload_n k_27_4 rfl ?_
  refine r_iconst k_27_5 ci_0 ?_
  refine r_put m_27 k_27_6 fl_3_20 rfl (Nat.le_of_ble_eq_true rfl) rfl rfl (wC_46 _) ?_
  refine r_aload_n k_27_9 rfl ?_
  refine r_iconst k_27_10 ci_0 ?_
  refine r_put m_27 k_27_11 fl_3_23 rfl (Nat.le_of_ble_eq_true rfl) rfl rfl (wC_50 _) ?_
  refine r_aload_n k_27_14 rfl ?_
  refine r_iconst k_27_15 ci_0 ?_
  refine r_put m_27 k_27_16 fl_3_26 rfl (Nat.le_of_ble_eq_true rfl) rfl rfl (wC_47 _) ?_
  refine r_aload_n k_27_19 rfl ?_
  refine r_iconst k_27_20 ci_m1 ?_
  refine r_put m_27 k_27_21 fl_3_9 rfl (Nat.le_of_ble_eq_true rfl) rfl rfl (wC_8 _) ?_
  refine r_iconst k_27_24 ci_0 ?_
  refine r_istore_n k_27_25 rfl ?_
  have r4 : hc_rs q k1 (hm_uM (hm_uM (hm_uM (hm_uM k1 46 (fun _ => nI 0)) 50 (fun _ => nI 0)) 47 (fun _ => nI 0)) 8 (fun _ => -1)) := fun j h1 h2 h3 => (if_neg (by omega)).trans ((if_neg (by omega)).trans ((if_neg (by omega)).trans (if_neg (by omega))))
  exact l_27 hq hN1 hQ0 hQ1 (N - 0) 0 0 0 0 (nI 0) F (hm_uM (hm_uM (hm_uM (hm_uM k1 46 (fun _ => nI 0)) 50 (fun _ => nI 0)) 47 (fun _ => nI 0)) 8 (fun _ => -1)) 0 _ rfl (r1.tr r4) ⟨⟨rfl, rfl, by decide, rfl⟩, fun t ht i hi => (congrFun ((if_neg (by omega)).trans ((if_neg (by omega)).trans ((if_neg (by omega)).trans (if_neg (by omega))))) i).trans ((f1 t ht i hi).trans (hF0 t ht i hi).symm), fun t ht _ i hi => hF0 t ht i hi, fun z => absurd rfl z, fun z => absurd z (by decide), fun z => absurd z (by decide)⟩ (by omega) (by omega) (by rw [r4 7 (by decide) (by decide) (by omega), r1 7 (by decide) (by decide) (by omega)]; exact hN) rfl ((r4 6 (by decide) (by decide) (by omega)).trans (r1 6 (by decide) (by decide) (by omega))) hA
