theorem hm_so_ge (c : Int32) : hm_so c = -1 ∨ 0 ≤ hm_so c := by
  by_cases h : hm_so c < 0
  · refine Or.inl ?_
    unfold hm_so at h ⊢
    split
    · split
      · split
        · split
          · rfl
          · rename_i h1 h2 h3 h4
            rw [if_pos h1, if_pos h2, if_pos h3, if_neg h4] at h
            exact absurd h (by decide)
        · rename_i h1 h2 h3
          rw [if_pos h1, if_pos h2, if_neg h3] at h
          exact absurd h (by decide)
      · rename_i h1 h2
        rw [if_pos h1, if_neg h2] at h
        exact absurd h (by decide)
    · rename_i h1
      rw [if_neg h1] at h
      exact absurd h (by decide)
  · exact Or.inr (Int32.not_lt.mp h)
theorem hc_f0_im {F : Nat → Int32} {x : Nat} (hx : x < 4) (fr : ∀ i, i < 5 → F (5 * x + i) = hc_f0 i) : hc_im (nI 0) x F ∧ hm_has (F (5 * x + 4)) (nI x) = false := by
  have f0 : F (5 * x) = nI 0 := (fr 0 (by decide)).trans rfl
  have f1 : F (5 * x + 1) = -1 := (fr 1 (by decide)).trans rfl
  have f2 : F (5 * x + 2) = -1 := (fr 2 (by decide)).trans rfl
  have f3 : F (5 * x + 3) = nI 0 := (fr 3 (by decide)).trans rfl
  have f4 : F (5 * x + 4) = nI 0 := (fr 4 (by decide)).trans rfl
  refine ⟨⟨fun i hi => by rw [f0], ?_, ?_, ?_, fun t ht => ?_⟩, ?_⟩
  · rw [f1]; decide +kernel
  · rw [f2]; decide +kernel
  · rw [f3]; decide +kernel
  · rw [f4, hc_has_0 ⟨9 + t, by omega⟩, hc_has_0 ⟨t, by omega⟩]
  · rw [f4, hc_has_0 ⟨x, by omega⟩]
set_option maxRecDepth 20000 in
theorem s_30_0 {d n s : Nat} {k : hm_M} {ad : hm_AD} {w : hm_W} {h : Nat → Option va_E} {Q : Option Value → hm_H → Prop} {N a q cl bd : Nat} {seen : Int32} {F : Nat → Int32} (hq : q < 5) (hN : k 7 0 = nI N) (hN1 : N ≤ 100) (J : hc_J k q a 0 cl bd seen F) (haN : a < N) (hbl : ¬ k 6 a = nI 32) (hF : ∀ f, 0 < f → f < 6 → hm_A (k 6) N a 0 cl bd seen F = (nI f, nI a, F) → Q (some (.int (nI f))) (hm_hC k ad w h n s)) (hG : ∀ k2 a2 aw2 cl2 bd2 seen2 F2, hc_rs q k k2 → k2 8 = k 8 → hc_J k2 q a2 aw2 cl2 bd2 seen2 F2 → a < a2 → a2 ≤ N → hm_A (k 6) N a 0 cl bd seen F = hm_A (k 6) N a2 aw2 cl2 bd2 seen2 F2 → Q (some (.int (nI 0))) (hm_hC k2 ad w h n s)) : hm_T (d + 2) 30 0 [.ref 27, .ref 25, .ref (hm_lb q)] [] (hm_hC k ad w h n s) Q := by
  have hA : hm_A (k 6) N a 0 cl bd seen F = hm_ab (k 6) N (hm_A (k 6) N) a 0 cl bd seen F := hm_A_eq 0 cl bd seen F
  unfold hm_ab at hA
  rw [if_pos haN, if_neg hbl, if_pos rfl] at hA
  obtain ⟨⟨j1, j2, j3, j4⟩, j5, j6, j7, j8, j9⟩ := id J
  have hcb : hm_c (k 6) N a = k 6 a := if_pos haN
  have hs : (nI 0).toInt = 0 := by decide +kernel
  refine r_aload_n k_30_0 rfl ?_
  refine r_get m_30 k_30_1 fl_3_20 rfl rfl ?_
  rw [j2]
  refine r_tableIn k_30_4 (by rw [hs]; decide) (by rw [hs]; rfl) rfl ?_
  refine r_aload_n k_30_32 rfl ?_
  refine r_aload_n k_30_33 rfl ?_
  refine r_aload_n k_30_34 rfl ?_
  refine r_get m_30 k_30_35 fl_3_26 rfl rfl ?_
  rw [j1]
  refine r_callv2 m_30 k_30_38 cl_3_34 m_28 (by decide) rfl rfl (Nat.le_of_ble_eq_true rfl) (Nat.le_of_ble_eq_true rfl) rfl rfl ?_
  refine s_28 hN hN1 (a := a) (by omega) ?_
  rw [hcb]
  refine r_calls1 m_30 k_30_41 cl_3_46 m_31 (by decide) rfl rfl (Nat.le_of_ble_eq_true rfl) (Nat.le_of_ble_eq_true rfl) ?_
  refine s_31 ?_
  refine r_callv2 m_30 k_30_44 cl_3_49 m_32 (by decide) rfl rfl (Nat.le_of_ble_eq_true rfl) (Nat.le_of_ble_eq_true rfl) rfl rfl ?_
  by_cases hneg : hm_so (k 6 a) < 0
  · rw [if_pos hneg] at hA
    have em : hm_so (k 6 a) = -1 := by
      rcases hm_so_ge (k 6 a) with h1 | h1
      · exact h1
      · exact absurd hneg (Int32.not_lt.mpr h1)
    rw [em]
    refine s_32_no ?_
    exact hm_T.ret m_30 k_30_47 rfl (hF 1 (by decide) (by decide) hA)
  · obtain ⟨x, hx4, hxe⟩ := hm_so_lt hneg
    rw [if_neg hneg, hxe] at hA
    rw [hxe]
    by_cases hseen : hm_has seen (nI x) = true
    · rw [if_pos hseen] at hA
      refine s_32_again hx4 (by rw [j4]; exact hseen) ?_
      exact hm_T.ret m_30 k_30_47 rfl (hF 3 (by decide) (by decide) hA)
    · rw [if_neg hseen, nI_clamp (by omega)] at hA
      have hsf : hm_has seen (nI x) = false := eq_false_of_ne_true hseen
      have fr := j6 x hx4 hsf
      refine s_32 hx4 (by rw [j4]; exact hsf) ?_
      refine hm_T.ret m_30 k_30_47 rfl (hG _ (a + 1) 1 x bd _ F (fun j h1 h2 h3 => (if_neg (by omega)).trans ((if_neg (by omega)).trans ((if_neg (by omega)).trans ((if_neg (by omega)).trans (if_neg (by omega)))))) rfl ⟨⟨?_, rfl, by decide, by rw [← j4]; rfl⟩, fun t ht i hi => (congrFun ((if_neg (by omega)).trans ((if_neg (by omega)).trans ((if_neg (by omega)).trans ((if_neg (by omega)).trans (if_neg (by omega)))))) i).trans (j5 t ht i hi), fun t ht hs i hi => ?_, fun _ => ⟨rfl, hx4, (hc_f0_im hx4 fr).2, ?_⟩, fun _ => (hc_f0_im hx4 fr).1, fun h => absurd h (by decide)⟩ (by omega) (by omega) hA)
      · show k 47 0 + nI 1 = _
        rw [j1, nI_add]
      · refine j6 t ht ?_ i hi
        rw [hc_has_or _ _ t (by omega), Bool.or_eq_false_iff] at hs
        exact hs.1
      · rw [hc_has_or _ _ x (by omega), hc_has_1 x x (by omega) (by omega), decide_eq_true rfl, Bool.or_true]
set_option maxRecDepth 20000 in
theorem s_30_1 {d n s : Nat} {k : hm_M} {ad : hm_AD} {w : hm_W} {h : Nat → Option va_E} {Q : Option Value → hm_H → Prop} {N a q cl bd : Nat} {seen : Int32} {F : Nat → Int32} (hq : q < 5) (hN : k 7 0 = nI N) (hN1 : N ≤ 100) (J : hc_J k q a 1 cl bd seen F) (haN : a < N) (hbl : ¬ k 6 a = nI 32) (hF : ∀ f, 0 < f → f < 6 → hm_A (k 6) N a 1 cl bd seen F = (nI f, nI a, F) → Q (some (.int (nI f))) (hm_hC k ad w h n s)) (hG : ∀ k2 a2 aw2 cl2 bd2 seen2 F2, hc_rs q k k2 → k2 8 = k 8 → hc_J k2 q a2 aw2 cl2 bd2 seen2 F2 → a < a2 → a2 ≤ N → hm_A (k 6) N a 1 cl bd seen F = hm_A (k 6) N a2 aw2 cl2 bd2 seen2 F2 → Q (some (.int (nI 0))) (hm_hC k2 ad w h n s)) : hm_T (d + 2) 30 0 [.ref 27, .ref 25, .ref (hm_lb q)] [] (hm_hC k ad w h n s) Q := by
  have hA : hm_A (k 6) N a 1 cl bd seen F = hm_ab (k 6) N (hm_A (k 6) N) a 1 cl bd seen F := hm_A_eq 1 cl bd seen F
  unfold hm_ab at hA
  rw [if_pos haN, if_neg hbl, if_neg (by decide), if_pos rfl] at hA
  obtain ⟨⟨j1, j2, j3, j4⟩, j5, j6, j7, j8, j9⟩ := id J
  have hcb : hm_c (k 6) N a = k 6 a := if_pos haN
  have hs : (nI 1).toInt = 1 := by decide +kernel
  refine r_aload_n k_30_0 rfl ?_
  refine r_get m_30 k_30_1 fl_3_20 rfl rfl ?_
  rw [j2]
  refine r_tableIn k_30_4 (by rw [hs]; decide) (by rw [hs]; rfl) rfl ?_
  refine r_aload_n k_30_48 rfl ?_
  refine r_aload_n k_30_49 rfl ?_
  refine r_get m_30 k_30_50 fl_3_26 rfl rfl ?_
  rw [j1]
  refine r_callv2 m_30 k_30_53 cl_3_34 m_28 (by decide) rfl rfl (Nat.le_of_ble_eq_true rfl) (Nat.le_of_ble_eq_true rfl) rfl rfl ?_
  refine s_28 hN hN1 (a := a) (by omega) ?_
  rw [hcb]
  refine r_bipush k_30_56 cb_58 ?_
  refine r_icmp_ne k_30_58 rfl (fun c_58 => ?_) (fun c_58 => ?_)
  · refine r_iconst k_30_69 ci_1 ?_
    exact hm_T.ret m_30 k_30_70 rfl (by rw [if_neg c_58] at hA; exact hF 1 (by decide) (by decide) hA)
  · have c_58 := Decidable.of_not_not c_58
    refine r_aload_n k_30_61 rfl ?_
    refine r_iconst k_30_62 ci_2 ?_
    refine r_callv2 m_30 k_30_63 cl_3_52 m_33 (by decide) rfl rfl (Nat.le_of_ble_eq_true rfl) (Nat.le_of_ble_eq_true rfl) rfl rfl ?_
    rw [if_pos c_58] at hA
    refine s_33 ?_
    refine r_goto k_30_66 rfl ?_
    exact hm_T.ret m_30 k_30_70 rfl (hG _ (a + 1) 2 cl bd seen F hc_kg_rs rfl (hc_J_go J (Or.inl ⟨rfl, rfl⟩)) (by omega) (by omega) hA)
set_option maxRecDepth 20000 in
theorem s_30_3 {d n s : Nat} {k : hm_M} {ad : hm_AD} {w : hm_W} {h : Nat → Option va_E} {Q : Option Value → hm_H → Prop} {N a q cl bd : Nat} {seen : Int32} {F : Nat → Int32} (hq : q < 5) (hN : k 7 0 = nI N) (hN1 : N ≤ 100) (J : hc_J k q a 3 cl bd seen F) (haN : a < N) (hbl : ¬ k 6 a = nI 32) (hF : ∀ f, 0 < f → f < 6 → hm_A (k 6) N a 3 cl bd seen F = (nI f, nI a, F) → Q (some (.int (nI f))) (hm_hC k ad w h n s)) (hG : ∀ k2 a2 aw2 cl2 bd2 seen2 F2, hc_rs q k k2 → k2 8 = k 8 → hc_J k2 q a2 aw2 cl2 bd2 seen2 F2 → a < a2 → a2 ≤ N → hm_A (k 6) N a 3 cl bd seen F = hm_A (k 6) N a2 aw2 cl2 bd2 seen2 F2 → Q (some (.int (nI 0))) (hm_hC k2 ad w h n s)) : hm_T (d + 2) 30 0 [.ref 27, .ref 25, .ref (hm_lb q)] [] (hm_hC k ad w h n s) Q := by
  have hA : hm_A (k 6) N a 3 cl bd seen F = hm_ab (k 6) N (hm_A (k 6) N) a 3 cl bd seen F := hm_A_eq 3 cl bd seen F
  unfold hm_ab at hA
  rw [if_pos haN, if_neg hbl, if_neg (by decide), if_neg (by decide), if_neg (by decide)] at hA
  obtain ⟨⟨j1, j2, j3, j4⟩, j5, j6, j7, j8, j9⟩ := id J
  have hcb : hm_c (k 6) N a = k 6 a := if_pos haN
  have hs : (nI 3).toInt = 3 := by decide +kernel
  refine r_aload_n k_30_0 rfl ?_
  refine r_get m_30 k_30_1 fl_3_20 rfl rfl ?_
  rw [j2]
  refine r_tableOut k_30_4 (by rw [hs]; decide) rfl ?_
  refine r_aload_n k_30_109 rfl ?_
  refine r_aload_n k_30_110 rfl ?_
  refine r_aload_n k_30_111 rfl ?_
  refine r_callv3 m_30 k_30_112 cl_3_62 m_38 (by decide) rfl rfl (Nat.le_of_ble_eq_true rfl) (Nat.le_of_ble_eq_true rfl) rfl rfl ?_
  obtain ⟨j71, j72, j73, j74⟩ := j7 (by decide)
  obtain ⟨j91, j92, j93⟩ := j9 rfl
  refine s_38 hN hN1 j1 (by omega) hq j71 j72 j91 (by omega) (fun e => ?_) (fun e => ?_) (fun j e e1 e2 => ?_)
  · rw [if_pos e] at hA
    exact hm_T.ret m_30 k_30_115 rfl (hF 1 (by decide) (by decide) hA)
  · rw [if_neg (by omega), if_pos e] at hA
    exact hm_T.ret m_30 k_30_115 rfl (hF 2 (by decide) (by decide) hA)
  · rw [if_neg (by omega), if_neg (by omega), e] at hA
    have hv := hc_nv_pos e e2
    have hle := hm_nf_le (T := k 6) haN
    have hrow : ∀ t, (hm_uM (hm_uM (hm_uM k (60 + 4 * q + cl) (upd (k (60 + 4 * q + cl)) bd (hm_nv (k 6) a j))) 47 (fun _ => nI (a + j))) 46 (fun _ => nI 2)) (60 + 4 * q + t) = (if t = cl then upd (k (60 + 4 * q + cl)) bd (hm_nv (k 6) a j) else k (60 + 4 * q + t)) := fun t => by
      refine (if_neg (by omega)).trans ((if_neg (by omega)).trans ?_)
      by_cases h : t = cl
      · rw [if_pos h]; exact if_pos (by omega)
      · rw [if_neg h]; exact if_neg (by omega)
    have hlo : ∀ f, f < 60 → ¬ f = 46 → ¬ f = 47 → (hm_uM (hm_uM (hm_uM k (60 + 4 * q + cl) (upd (k (60 + 4 * q + cl)) bd (hm_nv (k 6) a j))) 47 (fun _ => nI (a + j))) 46 (fun _ => nI 2)) f = k f := fun f h1 h2 h3 => (if_neg h2).trans ((if_neg h3).trans (if_neg (by omega)))
    refine hm_T.ret m_30 k_30_115 rfl (hG _ (a + j) 2 cl bd seen (upd F (5 * cl + bd) (hm_nv (k 6) a j)) (fun f h1 h2 h3 => (if_neg (by omega)).trans ((if_neg (by omega)).trans (if_neg (by omega)))) (hlo 8 (by decide) (by decide) (by decide)) ⟨⟨rfl, rfl, by decide, by rw [hlo 50 (by decide) (by decide) (by decide)]; exact j4⟩, fun t ht i hi => ?_, fun t ht hs i hi => ?_, fun _ => ⟨by rw [hlo 48 (by decide) (by decide) (by decide)]; exact j71, j72, ?_, j74⟩, fun _ => ?_, fun h => absurd h (by decide)⟩ (by omega) (by omega) hA)
    · rw [hrow]
      by_cases htc : t = cl
      · subst htc
        rw [if_pos rfl]
        by_cases h2 : i = bd
        · subst h2
          exact (if_pos rfl).trans (if_pos rfl).symm
        · exact (if_neg h2).trans ((j5 t ht i hi).trans (if_neg (by omega)).symm)
      · rw [if_neg htc]
        exact (j5 t ht i hi).trans (if_neg (by omega)).symm
    · have htc : ¬ t = cl := fun z => by rw [z, j74] at hs; cases hs
      exact (if_neg (by omega)).trans (j6 t ht hs i hi)
    · rw [hm_upd_o (by omega)]; exact j73
    · rw [hlo 51 (by decide) (by decide) (by decide)]
      exact hc_im_v j92 hv j93
set_option maxRecDepth 20000 in
theorem s_30_2 {d n s : Nat} {k : hm_M} {ad : hm_AD} {w : hm_W} {h : Nat → Option va_E} {Q : Option Value → hm_H → Prop} {N a q cl bd : Nat} {seen : Int32} {F : Nat → Int32} (hq : q < 5) (hN : k 7 0 = nI N) (hN1 : N ≤ 100) (J : hc_J k q a 2 cl bd seen F) (haN : a < N) (hbl : ¬ k 6 a = nI 32) (hF : ∀ f, 0 < f → f < 6 → hm_A (k 6) N a 2 cl bd seen F = (nI f, nI a, F) → Q (some (.int (nI f))) (hm_hC k ad w h n s)) (hG : ∀ k2 a2 aw2 cl2 bd2 seen2 F2, hc_rs q k k2 → k2 8 = k 8 → hc_J k2 q a2 aw2 cl2 bd2 seen2 F2 → a < a2 → a2 ≤ N → hm_A (k 6) N a 2 cl bd seen F = hm_A (k 6) N a2 aw2 cl2 bd2 seen2 F2 → Q (some (.int (nI 0))) (hm_hC k2 ad w h n s)) : hm_T (d + 2) 30 0 [.ref 27, .ref 25, .ref (hm_lb q)] [] (hm_hC k ad w h n s) Q := by
  have hA : hm_A (k 6) N a 2 cl bd seen F = hm_ab (k 6) N (hm_A (k 6) N) a 2 cl bd seen F := hm_A_eq 2 cl bd seen F
  unfold hm_ab at hA
  rw [if_pos haN, if_neg hbl, if_neg (by decide), if_neg (by decide), if_pos rfl] at hA
  obtain ⟨⟨j1, j2, j3, j4⟩, j5, j6, j7, j8, j9⟩ := id J
  have hcb : hm_c (k 6) N a = k 6 a := if_pos haN
  have hs : (nI 2).toInt = 2 := by decide +kernel
  refine r_aload_n k_30_0 rfl ?_
  refine r_get m_30 k_30_1 fl_3_20 rfl rfl ?_
  rw [j2]
  refine r_tableIn k_30_4 (by rw [hs]; decide) (by rw [hs]; rfl) rfl ?_
  refine r_aload_n k_30_71 rfl ?_
  refine r_aload_n k_30_72 rfl ?_
  refine r_get m_30 k_30_73 fl_3_26 rfl rfl ?_
  rw [j1]
  refine r_callv2 m_30 k_30_76 cl_3_34 m_28 (by decide) rfl rfl (Nat.le_of_ble_eq_true rfl) (Nat.le_of_ble_eq_true rfl) rfl rfl ?_
  refine s_28 hN hN1 (a := a) (by omega) ?_
  rw [hcb]
  refine r_bipush k_30_79 cb_59 ?_
  refine r_icmp_ne k_30_81 rfl (fun c_81 => ?_) (fun c_81 => ?_)
  · refine r_aload_n k_30_92 rfl ?_
    refine r_aload_n k_30_93 rfl ?_
    refine r_aload_n k_30_94 rfl ?_
    refine r_get m_30 k_30_95 fl_3_26 rfl rfl ?_
    rw [j1]
    refine r_callv2 m_30 k_30_98 cl_3_34 m_28 (by decide) rfl rfl (Nat.le_of_ble_eq_true rfl) (Nat.le_of_ble_eq_true rfl) rfl rfl ?_
    refine s_28 hN hN1 (a := a) (by omega) ?_
    rw [hcb]
    refine r_calls1 m_30 k_30_101 cl_3_55 m_34 (by decide) rfl rfl (Nat.le_of_ble_eq_true rfl) (Nat.le_of_ble_eq_true rfl) ?_
    refine s_34 ?_
    refine r_aload_n k_30_104 rfl ?_
    refine r_callv3 m_30 k_30_105 cl_3_58 m_35 (by decide) rfl rfl (Nat.le_of_ble_eq_true rfl) (Nat.le_of_ble_eq_true rfl) rfl rfl ?_
    obtain ⟨j71, j72, j73, j74⟩ := j7 (by decide)
    have him := j8 (Or.inr rfl)
    obtain ⟨m1, m2, m3, m4, m5⟩ := id him
    rw [if_neg c_81] at hA
    by_cases hpap : 65 ≤ (k 6 a).toInt ∧ (k 6 a).toInt ≤ 70
    · obtain ⟨y, hy, ye, yi, -⟩ := hm_nIof2 (x := k 6 a) (N := 71) (by omega) (by omega)
      have hy65 : 65 ≤ y := by omega
      obtain ⟨i, rfl⟩ : ∃ i, y = 65 + i := ⟨y - 65, by omega⟩
      have esub : k 6 a - nI 65 = nI i := by rw [ye]; exact hm_nIsub rfl
      rw [show hc_io (k 6 a) = nI i from (if_pos hpap).trans esub]
      have hit : hm_it (k 6 a) cl F = (if hm_has (F (5 * cl)) (nI i) = true then .inl 4 else .inr (.inl (upd F (5 * cl) (F (5 * cl) ||| nI 1 <<< (nI i &&& 31))))) := by
        unfold hm_it
        rw [if_pos hpap, esub]
      rw [hit] at hA
      by_cases hh : hm_has (F (5 * cl)) (nI i) = true
      · rw [if_pos hh] at hA
        refine s_35_again (x := i) (by omega) (by rw [m1 i (by omega)]; exact hh) ?_
        exact hm_T.ret m_30 k_30_108 rfl (hF 4 (by decide) (by decide) hA)
      · rw [if_neg hh] at hA
        have hhf := eq_false_of_ne_true hh
        refine s_35_pap hq j71 j72 (by omega) (by rw [m1 i (by omega)]; exact hhf) ?_
        have e0 : k (60 + 4 * q + cl) 0 = F (5 * cl) := j5 cl j72 0 (by decide)
        rw [e0]
        exact hm_T.ret m_30 k_30_108 rfl (hG _ (a + 1) 2 cl bd seen _ (hc_nk_rs j72) (hc_nk_lo (by decide) (by decide) (by decide) (by decide)) (hc_J_item J (i0 := 0) (by decide) (hc_im_pap him (by omega)) (by rw [hm_upd_o (by omega)]; exact j73)) (by omega) (by omega) hA)
    · by_cases hb1 : k 6 a = nI 60
      · rw [show hc_io (k 6 a) = nI 6 from (if_neg hpap).trans (if_pos hb1)]
        have hbd1 : hm_bd (k 6 a) = 1 := if_pos hb1
        have hit : hm_it (k 6 a) cl F = (if F (5 * cl + 1) < 0 then .inr (.inr 1) else .inl 4) := by
          unfold hm_it
          rw [if_neg hpap, if_pos (Or.inl hb1), hbd1]
        rw [hit] at hA
        by_cases hneg : F (5 * cl + 1) < 0
        · rw [if_pos hneg] at hA
          refine s_35_b1 (cl := cl) j71 j72 (by rw [m2]; exact decide_eq_false (Int32.not_le.mpr hneg)) ?_
          exact hm_T.ret m_30 k_30_108 rfl (hG (hc_kb k 1 6) (a + 1) 3 cl 1 seen F (hc_kb_rs k q 1 6) rfl (hc_J_bound J (Or.inl rfl) rfl) (by omega) (by omega) hA)
        · rw [if_neg hneg] at hA
          refine s_35_again (x := 6) (by decide) (by rw [m2]; exact decide_eq_true (Int32.not_lt.mp hneg)) ?_
          exact hm_T.ret m_30 k_30_108 rfl (hF 4 (by decide) (by decide) hA)
      · by_cases hb2 : k 6 a = nI 62
        · rw [show hc_io (k 6 a) = nI 7 from (if_neg hpap).trans ((if_neg hb1).trans (if_pos hb2))]
          have hbd1 : hm_bd (k 6 a) = 2 := if_neg hb1
          have hit : hm_it (k 6 a) cl F = (if F (5 * cl + 2) < 0 then .inr (.inr 2) else .inl 4) := by
            unfold hm_it
            rw [if_neg hpap, if_pos (Or.inr hb2), hbd1]
          rw [hit] at hA
          by_cases hneg : F (5 * cl + 2) < 0
          · rw [if_pos hneg] at hA
            refine s_35_b2 (cl := cl) j71 j72 (by rw [m3]; exact decide_eq_false (Int32.not_le.mpr hneg)) ?_
            exact hm_T.ret m_30 k_30_108 rfl (hG (hc_kb k 2 7) (a + 1) 3 cl 2 seen F (hc_kb_rs k q 2 7) rfl (hc_J_bound J (Or.inr rfl) rfl) (by omega) (by omega) hA)
          · rw [if_neg hneg] at hA
            refine s_35_again (x := 7) (by decide) (by rw [m3]; exact decide_eq_true (Int32.not_lt.mp hneg)) ?_
            exact hm_T.ret m_30 k_30_108 rfl (hF 4 (by decide) (by decide) hA)
        · by_cases hban : k 6 a = nI 33
          · rw [show hc_io (k 6 a) = nI 8 from (if_neg hpap).trans ((if_neg hb1).trans ((if_neg hb2).trans (if_pos hban)))]
            have hit : hm_it (k 6 a) cl F = (if F (5 * cl + 3) = nI 1 then .inl 4 else .inr (.inl (upd F (5 * cl + 3) (nI 1)))) := by
              unfold hm_it
              rw [if_neg hpap, if_neg (fun z => z.elim hb1 hb2), if_pos hban]
            rw [hit] at hA
            by_cases hh : F (5 * cl + 3) = nI 1
            · rw [if_pos hh] at hA
              refine s_35_again (x := 8) (by decide) (by rw [m4]; exact decide_eq_true hh) ?_
              exact hm_T.ret m_30 k_30_108 rfl (hF 4 (by decide) (by decide) hA)
            · rw [if_neg hh] at hA
              refine s_35_ban hq j71 j72 (by rw [m4]; exact decide_eq_false hh) ?_
              exact hm_T.ret m_30 k_30_108 rfl (hG _ (a + 1) 2 cl bd seen _ (hc_nk_rs j72) (hc_nk_lo (by decide) (by decide) (by decide) (by decide)) (hc_J_item J (i0 := 3) (by decide) (hc_im_ban him) (by rw [hm_upd_o (by omega)]; exact j73)) (by omega) (by omega) hA)
          · have hio : hc_io (k 6 a) = (if hm_so (k 6 a) = -1 then -1 else nI 9 + hm_so (k 6 a)) := (if_neg hpap).trans ((if_neg hb1).trans ((if_neg hb2).trans (if_neg hban)))
            have hit : hm_it (k 6 a) cl F = (if hm_so (k 6 a) < 0 then .inl 1 else if hm_so (k 6 a) = nI cl then .inl 5 else if hm_has (F (5 * cl + 4)) (hm_so (k 6 a)) = true then .inl 4 else .inr (.inl (upd F (5 * cl + 4) (F (5 * cl + 4) ||| nI 1 <<< (hm_so (k 6 a) &&& 31))))) := by
              unfold hm_it
              rw [if_neg hpap, if_neg (fun z => z.elim hb1 hb2), if_neg hban]
            rw [hit] at hA
            rw [hio]
            rcases hm_so_ge (k 6 a) with hso | hso
            · rw [if_pos hso]
              rw [if_pos (by rw [hso]; decide)] at hA
              refine s_35_no ?_
              exact hm_T.ret m_30 k_30_108 rfl (hF 1 (by decide) (by decide) hA)
            · obtain ⟨x, hx4, hxe⟩ := hm_so_lt (Int32.not_lt.mpr hso)
              rw [if_neg (by rw [hxe]; exact hm_nIm x (by omega)), hxe, nI_add]
              rw [if_neg (Int32.not_lt.mpr hso), hxe] at hA
              by_cases hown : x = cl
              · subst hown
                rw [if_pos rfl] at hA
                refine s_35_own j71 j72 (by rw [m5 x hx4]; exact j73) ?_
                exact hm_T.ret m_30 k_30_108 rfl (hF 5 (by decide) (by decide) hA)
              · rw [if_neg (fun z => hown (hm_nIinj z (by omega)))] at hA
                by_cases hh : hm_has (F (5 * cl + 4)) (nI x) = true
                · rw [if_pos hh] at hA
                  refine s_35_again (x := 9 + x) (by omega) (by rw [m5 x hx4]; exact hh) ?_
                  exact hm_T.ret m_30 k_30_108 rfl (hF 4 (by decide) (by decide) hA)
                · rw [if_neg hh] at hA
                  have hhf := eq_false_of_ne_true hh
                  refine s_35_stp hq j71 j72 hx4 hown (by rw [m5 x hx4]; exact hhf) ?_
                  have e0 : k (60 + 4 * q + cl) 4 = F (5 * cl + 4) := j5 cl j72 4 (by decide)
                  rw [e0]
                  exact hm_T.ret m_30 k_30_108 rfl (hG _ (a + 1) 2 cl bd seen _ (hc_nk_rs j72) (hc_nk_lo (by decide) (by decide) (by decide) (by decide)) (hc_J_item J (i0 := 4) (by decide) (hc_im_stp him hx4) (by rw [hc_upd_s, hc_has_or _ _ cl (by omega), j73, hc_has_1 x cl (by omega) (by omega), decide_eq_false (fun z => hown z.symm)]; rfl)) (by omega) (by omega) hA)
  · have c_81 := Decidable.of_not_not c_81
    refine r_aload_n k_30_84 rfl ?_
    refine r_iconst k_30_85 ci_0 ?_
    refine r_callv2 m_30 k_30_86 cl_3_52 m_33 (by decide) rfl rfl (Nat.le_of_ble_eq_true rfl) (Nat.le_of_ble_eq_true rfl) rfl rfl ?_
    rw [if_pos c_81] at hA
    refine s_33 ?_
    refine r_goto k_30_89 rfl ?_
    exact hm_T.ret m_30 k_30_108 rfl (hG _ (a + 1) 0 cl bd seen F hc_kg_rs rfl (hc_J_go J (Or.inr ⟨rfl, rfl⟩)) (by omega) (by omega) hA)
