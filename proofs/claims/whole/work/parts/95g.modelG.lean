theorem hm_nIinj {a b : Nat} (h : nI a = nI b) (ha : a < 2 ^ 31) (hb : b < 2 ^ 31 := by omega) : a = b := by
  have h2 := congrArg Int32.toInt h
  rw [nI_toInt ha, nI_toInt hb] at h2
  omega
theorem hm_pone {t : Nat → Int32} {c : Int32} : ∀ {n : Nat}, hm_po t c n < 0 → ∀ k, k < 2 ^ 31 → ¬ hm_po t c n = nI k := by
  intro n h k hk e
  rw [e] at h
  exact nI_pos hk h
set_option maxRecDepth 20000 in
theorem l_169b {d n s : Nat} {h : Nat → Option va_E} {Q : Option Value → hm_H → Prop} {x : Int32} {np N : Nat} (hp16 : np ≤ 16) (hN : N ≤ 400) (hx : x = nI N) : ∀ (k j : Nat) (m : hm_M) (va vb vc : Value), va.category = 1 → vb.category ≤ 2 → m 18 0 = nI np → j + k = N → (∀ va vb vc : Value, hm_T d 169 96 [.ref 61, .int x, .int (nI N), va, vb, vc] [] (hm_hM (hm_ngs np k m) h n s) Q) → hm_T d 169 18 [.ref 61, .int x, .int (nI j), va, vb, vc] [] (hm_hM m h n s) Q := by
  intro k
  induction k with
  | zero =>
    intro j m va vb vc hva hvb hp hj hK
    refine r_iload_n k_169_18 rfl ?_
    refine r_iload_n k_169_19 rfl ?_
    refine r_icmp_ge k_169_20 rfl (fun c_20 => ?_) (fun z => absurd (hx ▸ nI_le (show N ≤ j by omega) (by omega)) z)
    rw [show j = N by omega]
    exact hK va vb vc
  | succ k ih =>
    intro j m va vb vc hva hvb hp hj hK
    refine r_iload_n k_169_18 rfl ?_
    refine r_iload_n k_169_19 rfl ?_
    refine r_icmp_ge k_169_20 rfl (fun z => absurd z (hx ▸ nI_ge (show j < N by omega) (by omega))) (fun c_20 => ?_)
    refine r_iconst k_169_23 ci_0 ?_
    refine r_istore_n k_169_24 rfl ?_
    refine l_169 (y := nI j) hp16 np 0 m vb vc hvb hp (by omega) (fun vb vc hvb => ?_)
    refine r_iincn k_169_90 rfl (nI_inc j) rfl ?_
    refine r_goto k_169_93 rfl ?_
    exact ih (j + 1) _ _ _ _ rfl hvb (by rw [hm_ngt_o (by decide)]; exact hp) (by omega) hK
set_option maxRecDepth 20000 in
theorem s_169_out {d n s : Nat} {m : hm_M} {h : Nat → Option va_E} {Q : Option Value → hm_H → Prop} {x : Int32} (hx : ¬ (0 ≤ x.toInt ∧ x.toInt ≤ 400)) (hQ : Q (some (.int (-1002))) (hm_hM m h n s)) : hm_T (d + 1) 169 0 [.ref 61, .int x, .retAddr 0, .retAddr 0, .retAddr 0, .retAddr 0] [] (hm_hM m h n s) Q := by
  refine r_iload_n k_169_0 rfl ?_
  refine r_i2l k_169_1 ?_
  refine r_lconst k_169_2 cl_0 ?_
  refine r_ldc2_w m_169 k_169_3 ll_8_249 ?_
  refine r_calls3 m_169 k_169_6 cl_8_84 m_119 (by decide) rfl rfl (Nat.le_of_ble_eq_true rfl) (Nat.le_of_ble_eq_true rfl) ?_
  refine s_119 ?_
  rw [hm_ifc (hm_rngE2 x (a := 0) (b := 400) (lo := 0) (hi := 400) (by decide +kernel) (by decide +kernel))]
  rw [if_neg hx]
  refine r_if_ne k_169_9 rfl (fun z => absurd z (fun z => z rfl)) (fun c_9 => ?_)
  refine r_sipush k_169_12 cs_m1002 ?_
  exact hm_T.ret m_169 k_169_15 rfl hQ
set_option maxRecDepth 20000 in
theorem s_169 {d n s : Nat} {m : hm_M} {h : Nat → Option va_E} {Q : Option Value → hm_H → Prop} {np : Nat} (hp : m 18 0 = nI np) (hp16 : np ≤ 16) {N : Nat} (hN : N ≤ 400) (hQ : Q (some (.int (hm_sg (hm_ngs np N m 20) np))) (hm_hM (hm_ngs np N m) h n s)) : hm_T (d + 1) 169 0 [.ref 61, .int (nI N), .retAddr 0, .retAddr 0, .retAddr 0, .retAddr 0] [] (hm_hM m h n s) Q := by
  refine r_iload_n k_169_0 rfl ?_
  refine r_i2l k_169_1 ?_
  refine r_lconst k_169_2 cl_0 ?_
  refine r_ldc2_w m_169 k_169_3 ll_8_249 ?_
  refine r_calls3 m_169 k_169_6 cl_8_84 m_119 (by decide) rfl rfl (Nat.le_of_ble_eq_true rfl) (Nat.le_of_ble_eq_true rfl) ?_
  refine s_119 ?_
  rw [hm_ifc (hm_rngE2 (nI N) (a := 0) (b := 400) (lo := 0) (hi := 400) (by decide +kernel) (by decide +kernel))]
  rw [if_pos (by rw [nI_toInt (by omega)]; omega)]
  refine r_if_ne k_169_9 rfl (fun c_9 => ?_) (fun z => absurd (show ¬ (1 : Int32) = 0 by decide) z)
  refine r_iconst k_169_16 ci_0 ?_
  refine r_istore_n k_169_17 rfl ?_
  refine l_169b hp16 hN rfl N 0 m _ _ _ rfl (by decide) hp (by omega) (fun va vb vc => ?_)
  refine r_aload_n k_169_96 rfl ?_
  refine r_callv1 m_169 k_169_97 cl_8_235 m_164 (by decide) rfl rfl (Nat.le_of_ble_eq_true rfl) (Nat.le_of_ble_eq_true rfl) rfl rfl ?_
  refine s_164 (by rw [hm_ngs_o (by decide)]; exact hp) hp16 ?_
  exact hm_T.ret m_169 k_169_100 rfl hQ
set_option maxRecDepth 20000 in
theorem s_170_bad {d n s : Nat} {m : hm_M} {h : Nat → Option va_E} {Q : Option Value → hm_H → Prop} {nc : Nat} (hn : m 9 0 = nI nc) (hnc : nc ≤ 16) {np : Nat} (hp : m 18 0 = nI np) (hp16 : np ≤ 16) {pl c : Int32} (hb : ¬ ((0 ≤ pl.toInt ∧ pl.toInt < np) ∧ (0 ≤ c.toInt ∧ c.toInt < nc))) (hQ : Q (some (.int (-1001))) (hm_hM m h n s)) : hm_T (d + 2) 170 0 [.ref 61, .int pl, .int c] [] (hm_hM m h n s) Q := by
  refine r_aload_n k_170_0 rfl ?_
  refine r_iload_n k_170_1 rfl ?_
  refine r_callv2 m_170 k_170_2 cl_8_240 m_167 (by decide) rfl rfl (Nat.le_of_ble_eq_true rfl) (Nat.le_of_ble_eq_true rfl) rfl rfl ?_
  refine s_167 hp hp16 ?_
  refine r_if_eq k_170_5 rfl (fun c_5 => ?_) (fun c_5 => ?_)
  · have c_5 := hm_if0 c_5
    refine r_sipush k_170_16 cs_m1001 ?_
    exact hm_T.ret m_170 k_170_19 rfl hQ
  · have c_5 := hm_if1 c_5
    refine r_aload_n k_170_8 rfl ?_
    refine r_iload_n k_170_9 rfl ?_
    refine r_callv2 m_170 k_170_10 cl_8_213 m_148 (by decide) rfl rfl (Nat.le_of_ble_eq_true rfl) (Nat.le_of_ble_eq_true rfl) rfl rfl ?_
    refine s_148 hn hnc ?_
    refine r_if_ne k_170_13 rfl (fun c_13 => ?_) (fun c_13 => ?_)
    · have c_13 := hm_if1 c_13
      exact absurd ⟨c_5, c_13⟩ hb
    · have c_13 := hm_if0 (Decidable.of_not_not c_13)
      refine r_sipush k_170_16 cs_m1001 ?_
      exact hm_T.ret m_170 k_170_19 rfl hQ
def op_tie (m : hm_M) (np pk ck : Nat) : Int32 × hm_M := if 0 ≤ m 21 pk then (-1003, m) else if hm_po (m 21) (nI ck) np < 0 then (nI 1, hm_uM m 21 (upd (m 21) pk (nI ck))) else (-1003, m)
set_option maxRecDepth 20000 in
theorem s_170 {d n s : Nat} {m : hm_M} {h : Nat → Option va_E} {Q : Option Value → hm_H → Prop} {nc : Nat} (hn : m 9 0 = nI nc) (hnc : nc ≤ 16) {np : Nat} (hp : m 18 0 = nI np) (hp16 : np ≤ 16) {pk ck : Nat} (hpk : pk < np) (hck : ck < nc) (hQ : Q (some (.int (op_tie m np pk ck).1)) (hm_hM (op_tie m np pk ck).2 h n s)) : hm_T (d + 2) 170 0 [.ref 61, .int (nI pk), .int (nI ck)] [] (hm_hM m h n s) Q := by
  refine r_aload_n k_170_0 rfl ?_
  refine r_iload_n k_170_1 rfl ?_
  refine r_callv2 m_170 k_170_2 cl_8_240 m_167 (by decide) rfl rfl (Nat.le_of_ble_eq_true rfl) (Nat.le_of_ble_eq_true rfl) rfl rfl ?_
  refine s_167 hp hp16 ?_
  rw [if_pos (by rw [nI_toInt (by omega)]; omega)]
  refine r_if_eq k_170_5 rfl (fun z => absurd z (show ¬ (1 : Int32) = 0 by decide)) (fun c_5 => ?_)
  refine r_aload_n k_170_8 rfl ?_
  refine r_iload_n k_170_9 rfl ?_
  refine r_callv2 m_170 k_170_10 cl_8_213 m_148 (by decide) rfl rfl (Nat.le_of_ble_eq_true rfl) (Nat.le_of_ble_eq_true rfl) rfl rfl ?_
  refine s_148 hn hnc ?_
  rw [if_pos (by rw [nI_toInt (by omega)]; omega)]
  refine r_if_ne k_170_13 rfl (fun c_13 => ?_) (fun z => absurd (show ¬ (1 : Int32) = 0 by decide) z)
  refine r_aload_n k_170_20 rfl ?_
  refine r_get m_170 k_170_21 fl_8_60 rfl rfl ?_
  refine r_iload_n k_170_24 rfl ?_
  refine r_ialdn (k := pk) k_170_25 rfl (Or.inl rfl) rfl (by omega) (by decide) ?_
  refine r_if_ge k_170_26 rfl (fun c_26 => ?_) (fun c_26 => ?_)
  · refine r_sipush k_170_37 cs_m1003 ?_
    exact hm_T.ret m_170 k_170_40 rfl (by unfold op_tie at hQ; rw [if_pos c_26] at hQ; exact hQ)
  · refine r_aload_n k_170_29 rfl ?_
    refine r_iload_n k_170_30 rfl ?_
    refine r_callv2 m_170 k_170_31 cl_8_255 m_171 (by decide) rfl rfl (Nat.le_of_ble_eq_true rfl) (Nat.le_of_ble_eq_true rfl) rfl rfl ?_
    refine s_171 hp hp16 ?_
    refine r_if_lt k_170_34 rfl (fun c_34 => ?_) (fun c_34 => ?_)
    · refine r_aload_n k_170_41 rfl ?_
      refine r_get m_170 k_170_42 fl_8_60 rfl rfl ?_
      refine r_iload_n k_170_45 rfl ?_
      refine r_iload_n k_170_46 rfl ?_
      refine r_iastn (k := pk) k_170_47 rfl rfl rfl (by omega) (by decide) (wM_21 _) ?_
      refine r_iconst k_170_48 ci_1 ?_
      exact hm_T.ret m_170 k_170_49 rfl (by unfold op_tie at hQ; rw [if_neg c_26, if_pos c_34] at hQ; exact hQ)
    · refine r_sipush k_170_37 cs_m1003 ?_
      exact hm_T.ret m_170 k_170_40 rfl (by unfold op_tie at hQ; rw [if_neg c_26, if_neg c_34] at hQ; exact hQ)
theorem hm_po_lt {t : Nat → Int32} {c : Int32} : ∀ {n : Nat}, ¬ hm_po t c n < 0 → ∃ k, hm_po t c n = nI k ∧ k < n := by
  intro n
  induction n with
  | zero =>
    intro h
    exact absurd (show (-1 : Int32) < 0 by decide +kernel) h
  | succ n ih =>
    intro h
    by_cases hc : t n = c
    · exact ⟨n, if_neg (fun z => z hc), Nat.lt_succ_self n⟩
    · have e : hm_po t c (n + 1) = hm_po t c n := if_pos hc
      rw [e] at h ⊢
      obtain ⟨k, h1, h2⟩ := ih h
      exact ⟨k, h1, Nat.lt_succ_of_lt h2⟩
def hm_pout (m : hm_M) (p : Nat) : Int32 := if m 20 p ≤ m 19 p then m 20 p else m 19 p
def hm_stl (m : hm_M) (p : Nat) : hm_M := hm_uM (hm_uM m 20 (upd (m 20) p (m 20 p - hm_pout m p))) 22 (upd (m 22) p (m 22 p + hm_pout m p))
def op_settle (m : hm_M) (np ck : Nat) : Int32 × hm_M := if m 16 ck = 0 then (if m 15 (4 * ck + 2) < 0 ∧ m 15 (4 * ck + 3) < 0 then (-1003, m) else if hm_po (m 21) (nI ck) np < 0 then (nI 0, hm_uM m 16 (upd (m 16) ck (nI 1))) else (hm_pout m (hm_po (m 21) (nI ck) np).toNatClampNeg, hm_stl (hm_uM m 16 (upd (m 16) ck (nI 1))) (hm_po (m 21) (nI ck) np).toNatClampNeg)) else (-1003, m)
set_option maxRecDepth 20000 in
theorem s_172_bad {d n s : Nat} {m : hm_M} {h : Nat → Option va_E} {Q : Option Value → hm_H → Prop} {nc : Nat} (hn : m 9 0 = nI nc) (hnc : nc ≤ 16) {c : Int32} (hb : ¬ (0 ≤ c.toInt ∧ c.toInt < nc)) (hQ : Q (some (.int (-1001))) (hm_hM m h n s)) : hm_T (d + 2) 172 0 [.ref 61, .int c, .retAddr 0, .retAddr 0] [] (hm_hM m h n s) Q := by
  refine r_aload_n k_172_0 rfl ?_
  refine r_iload_n k_172_1 rfl ?_
  refine r_callv2 m_172 k_172_2 cl_8_213 m_148 (by decide) rfl rfl (Nat.le_of_ble_eq_true rfl) (Nat.le_of_ble_eq_true rfl) rfl rfl ?_
  refine s_148 hn hnc ?_
  rw [if_neg hb]
  refine r_if_ne k_172_5 rfl (fun z => absurd z (fun z => z rfl)) (fun c_5 => ?_)
  refine r_sipush k_172_8 cs_m1001 ?_
  exact hm_T.ret m_172 k_172_11 rfl hQ
set_option maxRecDepth 20000 in
theorem l_172 {d n s : Nat} {m : hm_M} {h : Nat → Option va_E} {Q : Option Value → hm_H → Prop} {np : Nat} (hp : m 18 0 = nI np) (hp16 : np ≤ 16) {ck : Nat} (hck : ck < 16) {va vb : Value} (hva : va.category = 1) (hK1 : hm_po (m 21) (nI ck) np < 0 → Q (some (.int (nI 0))) (hm_hM (hm_uM m 16 (upd (m 16) ck (nI 1))) h n s)) (hK2 : ∀ pk, hm_po (m 21) (nI ck) np = nI pk → pk < np → ∀ {x : Int32}, hm_pout m pk = x → Q (some (.int x)) (hm_hM (hm_uM (hm_uM (hm_uM m 16 (upd (m 16) ck (nI 1))) 20 (upd (m 20) pk (m 20 pk - x))) 22 (upd (m 22) pk (m 22 pk + x))) h n s)) : hm_T (d + 2) 172 43 [.ref 61, .int (nI ck), va, vb] [] (hm_hM m h n s) Q := by
  refine r_aload_n k_172_43 rfl ?_
  refine r_get m_172 k_172_44 fl_8_50 rfl rfl ?_
  refine r_iload_n k_172_47 rfl ?_
  refine r_iconst k_172_48 ci_1 ?_
  refine r_bastn (k := ck) k_172_49 rfl ⟨rfl, Or.inr rfl⟩ rfl (by omega) (by decide) (wM_16 _) ?_
  refine r_aload_n k_172_50 rfl ?_
  refine r_iload_n k_172_51 rfl ?_
  refine r_callv2 m_172 k_172_52 cl_8_255 m_171 (by decide) rfl rfl (Nat.le_of_ble_eq_true rfl) (Nat.le_of_ble_eq_true rfl) rfl rfl ?_
  refine s_171 (m := hm_uM m 16 (upd (m 16) ck (nI 1))) hp hp16 ?_
  refine r_istore_n k_172_55 rfl ?_
  refine r_iload_n k_172_56 rfl ?_
  refine r_if_ge k_172_57 rfl (fun c_57 => ?_) (fun c_57 => ?_)
  · obtain ⟨pk, hpk⟩ := hm_po_lt (fun z => absurd c_57 (Int32.not_le.mpr z))
    refine r_aload_n k_172_62 rfl ?_
    refine r_get m_172 k_172_63 fl_8_54 rfl rfl ?_
    refine r_iload_n k_172_66 rfl ?_
    refine r_ialdn (k := pk) k_172_67 rfl (Or.inl rfl) hpk.1 (by omega) (by decide) ?_
    refine r_aload_n k_172_68 rfl ?_
    refine r_get m_172 k_172_69 fl_8_57 rfl rfl ?_
    refine r_iload_n k_172_72 rfl ?_
    refine r_ialdn (k := pk) k_172_73 rfl (Or.inl rfl) hpk.1 (by omega) (by decide) ?_
    refine r_icmp_ge k_172_74 rfl (fun c_74 => ?_) (fun c_74 => ?_)
    · refine r_aload_n k_172_86 rfl ?_
      refine r_get m_172 k_172_87 fl_8_57 rfl rfl ?_
      refine r_iload_n k_172_90 rfl ?_
      refine r_ialdn (k := pk) k_172_91 rfl (Or.inl rfl) hpk.1 (by omega) (by decide) ?_
      refine r_istore_n k_172_92 rfl ?_
      refine r_aload_n k_172_93 rfl ?_
      refine r_get m_172 k_172_94 fl_8_57 rfl rfl ?_
      refine r_iload_n k_172_97 rfl ?_
      refine r_dup2 k_172_98 rfl rfl ?_
      refine r_ialdn (k := pk) k_172_99 rfl (Or.inl rfl) hpk.1 (by omega) (by decide) ?_
      refine r_iload_n k_172_100 rfl ?_
      refine r_isub k_172_101 ?_
      refine r_iastn (k := pk) k_172_102 rfl rfl hpk.1 (by omega) (by decide) (wM_20 _) ?_
      refine r_aload_n k_172_103 rfl ?_
      refine r_get m_172 k_172_104 fl_8_63 rfl rfl ?_
      refine r_iload_n k_172_107 rfl ?_
      refine r_dup2 k_172_108 rfl rfl ?_
      refine r_ialdn (k := pk) k_172_109 rfl (Or.inl rfl) hpk.1 (by omega) (by decide) ?_
      refine r_iload_n k_172_110 rfl ?_
      refine r_iadd k_172_111 ?_
      refine r_iastn (k := pk) k_172_112 rfl rfl hpk.1 (by omega) (by decide) (wM_22 _) ?_
      refine r_iload_n k_172_113 rfl ?_
      exact hm_T.ret m_172 k_172_114 rfl (hK2 pk hpk.1 hpk.2 (by first | exact if_pos c_74 | exact if_neg c_74))
    · refine r_aload_n k_172_77 rfl ?_
      refine r_get m_172 k_172_78 fl_8_54 rfl rfl ?_
      refine r_iload_n k_172_81 rfl ?_
      refine r_ialdn (k := pk) k_172_82 rfl (Or.inl rfl) hpk.1 (by omega) (by decide) ?_
      refine r_goto k_172_83 rfl ?_
      refine r_istore_n k_172_92 rfl ?_
      refine r_aload_n k_172_93 rfl ?_
      refine r_get m_172 k_172_94 fl_8_57 rfl rfl ?_
      refine r_iload_n k_172_97 rfl ?_
      refine r_dup2 k_172_98 rfl rfl ?_
      refine r_ialdn (k := pk) k_172_99 rfl (Or.inl rfl) hpk.1 (by omega) (by decide) ?_
      refine r_iload_n k_172_100 rfl ?_
      refine r_isub k_172_101 ?_
      refine r_iastn (k := pk) k_172_102 rfl rfl hpk.1 (by omega) (by decide) (wM_20 _) ?_
      refine r_aload_n k_172_103 rfl ?_
      refine r_get m_172 k_172_104 fl_8_63 rfl rfl ?_
      refine r_iload_n k_172_107 rfl ?_
      refine r_dup2 k_172_108 rfl rfl ?_
      refine r_ialdn (k := pk) k_172_109 rfl (Or.inl rfl) hpk.1 (by omega) (by decide) ?_
      refine r_iload_n k_172_110 rfl ?_
      refine r_iadd k_172_111 ?_
      refine r_iastn (k := pk) k_172_112 rfl rfl hpk.1 (by omega) (by decide) (wM_22 _) ?_
      refine r_iload_n k_172_113 rfl ?_
      exact hm_T.ret m_172 k_172_114 rfl (hK2 pk hpk.1 hpk.2 (by first | exact if_pos c_74 | exact if_neg c_74))
  · refine r_iconst k_172_60 ci_0 ?_
    exact hm_T.ret m_172 k_172_61 rfl (hK1 (Int32.not_le.mp c_57))
set_option maxRecDepth 20000 in
theorem s_172 {d n s : Nat} {m : hm_M} {h : Nat → Option va_E} {Q : Option Value → hm_H → Prop} {nc : Nat} (hn : m 9 0 = nI nc) (hnc : nc ≤ 16) {np : Nat} (hp : m 18 0 = nI np) (hp16 : np ≤ 16) {ck : Nat} (hck : ck < nc) (hQ : Q (some (.int (op_settle m np ck).1)) (hm_hM (op_settle m np ck).2 h n s)) : hm_T (d + 2) 172 0 [.ref 61, .int (nI ck), .retAddr 0, .retAddr 0] [] (hm_hM m h n s) Q := by
  refine r_aload_n k_172_0 rfl ?_
  refine r_iload_n k_172_1 rfl ?_
  refine r_callv2 m_172 k_172_2 cl_8_213 m_148 (by decide) rfl rfl (Nat.le_of_ble_eq_true rfl) (Nat.le_of_ble_eq_true rfl) rfl rfl ?_
  refine s_148 hn hnc ?_
  rw [if_pos (by rw [nI_toInt (by omega)]; omega)]
  refine r_if_ne k_172_5 rfl (fun c_5 => ?_) (fun z => absurd (show ¬ (1 : Int32) = 0 by decide) z)
  refine r_aload_n k_172_12 rfl ?_
  refine r_get m_172 k_172_13 fl_8_50 rfl rfl ?_
  refine r_iload_n k_172_16 rfl ?_
  refine r_baldn (k := ck) k_172_17 rfl rfl rfl (by omega) (by decide) ?_
  refine r_if_ne k_172_18 rfl (fun c_18 => ?_) (fun c_18 => ?_)
  · refine r_sipush k_172_39 cs_m1003 ?_
    exact hm_T.ret m_172 k_172_42 rfl (by unfold op_settle at hQ; rw [if_neg c_18] at hQ; exact hQ)
  · have c_18 := Decidable.of_not_not c_18
    refine r_aload_n k_172_21 rfl ?_
    refine r_iload_n k_172_22 rfl ?_
    refine r_iconst k_172_23 ci_2 ?_
    refine r_callv3 m_172 k_172_24 cl_8_92 m_122 (by decide) rfl rfl (Nat.le_of_ble_eq_true rfl) (Nat.le_of_ble_eq_true rfl) rfl rfl ?_
    refine s_122 (c := ck) (t := 2) (by omega) (by decide) ?_
    refine r_if_ge k_172_27 rfl (fun c_27 => ?_) (fun c_27 => ?_)
    · exact l_172 hp hp16 (by omega) rfl (fun z => by
        unfold op_settle at hQ
        rw [if_pos c_18, if_neg (by rintro ⟨z1, z2⟩; exact absurd z1 (Int32.not_lt.mpr c_27)), if_pos z] at hQ
        exact hQ) (fun pk e hpl x hx => by
        by_cases hz : hm_po (m 21) (nI ck) np < 0
        · exact absurd e (hm_pone hz pk (by omega))
        · obtain ⟨p2, e2, hp2⟩ := hm_po_lt hz
          unfold op_settle at hQ
          rw [if_pos c_18, if_neg (by rintro ⟨z1, z2⟩; exact absurd z1 (Int32.not_lt.mpr c_27)), if_neg hz, e2, nI_clamp (by omega)] at hQ
          rw [e2] at e
          have hee : p2 = pk := hm_nIinj e (by omega)
          subst hee
          subst hx
          exact hQ)
    · refine r_aload_n k_172_30 rfl ?_
      refine r_iload_n k_172_31 rfl ?_
      refine r_iconst k_172_32 ci_3 ?_
      refine r_callv3 m_172 k_172_33 cl_8_92 m_122 (by decide) rfl rfl (Nat.le_of_ble_eq_true rfl) (Nat.le_of_ble_eq_true rfl) rfl rfl ?_
      refine s_122 (c := ck) (t := 3) (by omega) (by decide) ?_
      refine r_if_ge k_172_36 rfl (fun c_36 => ?_) (fun c_36 => ?_)
      · exact l_172 hp hp16 (by omega) rfl (fun z => by
          unfold op_settle at hQ
          rw [if_pos c_18, if_neg (by rintro ⟨z1, z2⟩; exact absurd z2 (Int32.not_lt.mpr c_36)), if_pos z] at hQ
          exact hQ) (fun pk e hpl x hx => by
          by_cases hz : hm_po (m 21) (nI ck) np < 0
          · exact absurd e (hm_pone hz pk (by omega))
          · obtain ⟨p2, e2, hp2⟩ := hm_po_lt hz
            unfold op_settle at hQ
            rw [if_pos c_18, if_neg (by rintro ⟨z1, z2⟩; exact absurd z2 (Int32.not_lt.mpr c_36)), if_neg hz, e2, nI_clamp (by omega)] at hQ
            rw [e2] at e
            have hee : p2 = pk := hm_nIinj e (by omega)
            subst hee
            subst hx
            exact hQ)
      · refine r_sipush k_172_39 cs_m1003 ?_
        exact hm_T.ret m_172 k_172_42 rfl (by unfold op_settle at hQ; rw [if_pos c_18, if_pos ⟨Int32.not_le.mp c_27, Int32.not_le.mp c_36⟩] at hQ; exact hQ)
def hm_all (P : Nat → Bool) : Nat → Nat → Bool
  | 0, _ => true
  | k + 1, j => P j && hm_all P k (j + 1)
def hm_tkn (m : hm_M) (nc : Nat) : Nat → Nat → Nat
  | 0, hh => hm_cnt (fun c => decide (m 15 (4 * c + 0) = nI hh)) nc + hm_cnt (fun c => decide (m 15 (4 * c + 1) = nI hh)) nc + hm_cnt (fun c => decide (m 15 (4 * c + 2) = nI hh)) nc + hm_cnt (fun c => decide (m 15 (4 * c + 3) = nI hh)) nc
  | 1, hh => hm_cnt (fun c => decide (m 15 (4 * c + 2) = nI hh)) nc
  | _, hh => hm_cnt (fun c => decide (¬ m 15 (4 * c + 0) < 0) && decide ((m 15 (4 * c + 0)).toInt ≤ (nI hh).toInt ∧ (nI hh).toInt ≤ (hm_re (m 15 (4 * c + 2)) (m 15 (4 * c + 3))).toInt)) nc
set_option maxRecDepth 20000 in
theorem l_118_0 {d n s : Nat} {m : hm_M} {h : Nat → Option va_E} {Q : Option Value → hm_H → Prop} {nc : Nat} (hn : m 9 0 = nI nc) (hnc : nc ≤ 16) {v : Int32} (hK : ∀ va : Value, hm_all (fun hh => decide (nI (hm_tkn m nc 0 hh) ≤ v)) 400 0 = true → hm_T (d + 3) 118 107 [.ref 61, .int (nI 0), .int v, .int (nI 400), va] [] (hm_hM m h n s) Q) (hN : hm_all (fun hh => decide (nI (hm_tkn m nc 0 hh) ≤ v)) 400 0 = false → Q (some (.int (-1003))) (hm_hM m h n s)) : ∀ (k j : Nat) (va : Value), va.category = 1 → j + k = 400 → hm_all (fun hh => decide (nI (hm_tkn m nc 0 hh) ≤ v)) 400 0 = hm_all (fun hh => decide (nI (hm_tkn m nc 0 hh) ≤ v)) k j → hm_T (d + 3) 118 51 [.ref 61, .int (nI 0), .int v, .int (nI j), va] [] (hm_hM m h n s) Q := by
  intro k
  induction k with
  | zero =>
    intro j va hva hj he
    refine r_iload_n k_118_51 rfl ?_
    refine r_sipush k_118_52 cs_400 ?_
    refine r_icmp_ge k_118_55 rfl (fun c_55 => ?_) (fun z => absurd (nI_le (show 400 ≤ j by omega) (by omega)) z)
    rw [show j = 400 by omega]
    exact hK va he
  | succ k ih =>
    intro j va hva hj he
    refine r_iload_n k_118_51 rfl ?_
    refine r_sipush k_118_52 cs_400 ?_
    refine r_icmp_ge k_118_55 rfl (fun z => absurd z (nI_ge (show j < 400 by omega) (by omega))) (fun c_55 => ?_)
    refine r_iload_n k_118_58 rfl ?_
    refine r_if_ne k_118_59 rfl (fun z => absurd z (fun z => z (by decide))) (fun c_59 => ?_)
    refine r_aload_n k_118_62 rfl ?_
    refine r_iload_n k_118_63 rfl ?_
    refine r_callv2 m_118 k_118_64 cl_8_109 m_120 (by decide) rfl rfl (Nat.le_of_ble_eq_true rfl) (Nat.le_of_ble_eq_true rfl) rfl rfl ?_
    refine s_120 hn hnc ?_
    refine r_goto k_118_67 rfl ?_
    refine r_istore k_118_89 rfl ?_
    refine r_iload k_118_91 rfl ?_
    refine r_iload_n k_118_93 rfl ?_
    refine r_icmp_le k_118_94 rfl (fun c_94 => ?_) (fun c_94 => ?_)
    · refine r_iincn k_118_101 rfl (nI_inc j) rfl ?_
      refine r_goto k_118_104 rfl ?_
      refine ih (j + 1) _ rfl (by omega) (he.trans ?_)
      show (decide (nI (hm_tkn m nc 0 j) ≤ v) && _) = _
      rw [show decide (nI (hm_tkn m nc 0 j) ≤ v) = true from decide_eq_true c_94]
      rfl
    · refine r_sipush k_118_97 cs_m1003 ?_
      exact hm_T.ret m_118 k_118_100 rfl (hN (he.trans (by show (decide (nI (hm_tkn m nc 0 j) ≤ v) && _) = _; rw [show decide (nI (hm_tkn m nc 0 j) ≤ v) = false from decide_eq_false c_94]; rfl)))
set_option maxRecDepth 20000 in
theorem l_118_1 {d n s : Nat} {m : hm_M} {h : Nat → Option va_E} {Q : Option Value → hm_H → Prop} {nc : Nat} (hn : m 9 0 = nI nc) (hnc : nc ≤ 16) {v : Int32} (hK : ∀ va : Value, hm_all (fun hh => decide (nI (hm_tkn m nc 1 hh) ≤ v)) 400 0 = true → hm_T (d + 3) 118 107 [.ref 61, .int (nI 1), .int v, .int (nI 400), va] [] (hm_hM m h n s) Q) (hN : hm_all (fun hh => decide (nI (hm_tkn m nc 1 hh) ≤ v)) 400 0 = false → Q (some (.int (-1003))) (hm_hM m h n s)) : ∀ (k j : Nat) (va : Value), va.category = 1 → j + k = 400 → hm_all (fun hh => decide (nI (hm_tkn m nc 1 hh) ≤ v)) 400 0 = hm_all (fun hh => decide (nI (hm_tkn m nc 1 hh) ≤ v)) k j → hm_T (d + 3) 118 51 [.ref 61, .int (nI 1), .int v, .int (nI j), va] [] (hm_hM m h n s) Q := by
  intro k
  induction k with
  | zero =>
    intro j va hva hj he
    refine r_iload_n k_118_51 rfl ?_
    refine r_sipush k_118_52 cs_400 ?_
    refine r_icmp_ge k_118_55 rfl (fun c_55 => ?_) (fun z => absurd (nI_le (show 400 ≤ j by omega) (by omega)) z)
    rw [show j = 400 by omega]
    exact hK va he
  | succ k ih =>
    intro j va hva hj he
    refine r_iload_n k_118_51 rfl ?_
    refine r_sipush k_118_52 cs_400 ?_
    refine r_icmp_ge k_118_55 rfl (fun z => absurd z (nI_ge (show j < 400 by omega) (by omega))) (fun c_55 => ?_)
    refine r_iload_n k_118_58 rfl ?_
    refine r_if_ne k_118_59 rfl (fun c_59 => ?_) (fun z => absurd (by decide) z)
    refine r_iload_n k_118_70 rfl ?_
    refine r_iconst k_118_71 ci_1 ?_
    refine r_icmp_ne k_118_72 rfl (fun z => absurd z (fun z => z (by decide))) (fun c_72 => ?_)
    refine r_aload_n k_118_75 rfl ?_
    refine r_iload_n k_118_76 rfl ?_
    refine r_iconst k_118_77 ci_2 ?_
    refine r_callv3 m_118 k_118_78 cl_8_96 m_121 (by decide) rfl rfl (Nat.le_of_ble_eq_true rfl) (Nat.le_of_ble_eq_true rfl) rfl rfl ?_
    refine s_121 (t := 2) hn hnc (by decide) ?_
    refine r_goto k_118_81 rfl ?_
    refine r_istore k_118_89 rfl ?_
    refine r_iload k_118_91 rfl ?_
    refine r_iload_n k_118_93 rfl ?_
    refine r_icmp_le k_118_94 rfl (fun c_94 => ?_) (fun c_94 => ?_)
    · refine r_iincn k_118_101 rfl (nI_inc j) rfl ?_
      refine r_goto k_118_104 rfl ?_
      refine ih (j + 1) _ rfl (by omega) (he.trans ?_)
      show (decide (nI (hm_tkn m nc 1 j) ≤ v) && _) = _
      rw [show decide (nI (hm_tkn m nc 1 j) ≤ v) = true from decide_eq_true c_94]
      rfl
    · refine r_sipush k_118_97 cs_m1003 ?_
      exact hm_T.ret m_118 k_118_100 rfl (hN (he.trans (by show (decide (nI (hm_tkn m nc 1 j) ≤ v) && _) = _; rw [show decide (nI (hm_tkn m nc 1 j) ≤ v) = false from decide_eq_false c_94]; rfl)))
set_option maxRecDepth 20000 in
theorem l_118_2 {d n s : Nat} {m : hm_M} {h : Nat → Option va_E} {Q : Option Value → hm_H → Prop} {nc : Nat} (hn : m 9 0 = nI nc) (hnc : nc ≤ 16) {v : Int32} (hK : ∀ va : Value, hm_all (fun hh => decide (nI (hm_tkn m nc 2 hh) ≤ v)) 400 0 = true → hm_T (d + 3) 118 107 [.ref 61, .int (nI 2), .int v, .int (nI 400), va] [] (hm_hM m h n s) Q) (hN : hm_all (fun hh => decide (nI (hm_tkn m nc 2 hh) ≤ v)) 400 0 = false → Q (some (.int (-1003))) (hm_hM m h n s)) : ∀ (k j : Nat) (va : Value), va.category = 1 → j + k = 400 → hm_all (fun hh => decide (nI (hm_tkn m nc 2 hh) ≤ v)) 400 0 = hm_all (fun hh => decide (nI (hm_tkn m nc 2 hh) ≤ v)) k j → hm_T (d + 3) 118 51 [.ref 61, .int (nI 2), .int v, .int (nI j), va] [] (hm_hM m h n s) Q := by
  intro k
  induction k with
  | zero =>
    intro j va hva hj he
    refine r_iload_n k_118_51 rfl ?_
    refine r_sipush k_118_52 cs_400 ?_
    refine r_icmp_ge k_118_55 rfl (fun c_55 => ?_) (fun z => absurd (nI_le (show 400 ≤ j by omega) (by omega)) z)
    rw [show j = 400 by omega]
    exact hK va he
  | succ k ih =>
    intro j va hva hj he
    refine r_iload_n k_118_51 rfl ?_
    refine r_sipush k_118_52 cs_400 ?_
    refine r_icmp_ge k_118_55 rfl (fun z => absurd z (nI_ge (show j < 400 by omega) (by omega))) (fun c_55 => ?_)
    refine r_iload_n k_118_58 rfl ?_
    refine r_if_ne k_118_59 rfl (fun c_59 => ?_) (fun z => absurd (by decide) z)
    refine r_iload_n k_118_70 rfl ?_
    refine r_iconst k_118_71 ci_1 ?_
    refine r_icmp_ne k_118_72 rfl (fun c_72 => ?_) (fun z => absurd (by decide) z)
    refine r_aload_n k_118_84 rfl ?_
    refine r_iload_n k_118_85 rfl ?_
    refine r_callv2 m_118 k_118_86 cl_8_112 m_123 (by decide) rfl rfl (Nat.le_of_ble_eq_true rfl) (Nat.le_of_ble_eq_true rfl) rfl rfl ?_
    refine s_123 hn hnc ?_
    refine r_istore k_118_89 rfl ?_
    refine r_iload k_118_91 rfl ?_
    refine r_iload_n k_118_93 rfl ?_
    refine r_icmp_le k_118_94 rfl (fun c_94 => ?_) (fun c_94 => ?_)
    · refine r_iincn k_118_101 rfl (nI_inc j) rfl ?_
      refine r_goto k_118_104 rfl ?_
      refine ih (j + 1) _ rfl (by omega) (he.trans ?_)
      show (decide (nI (hm_tkn m nc 2 j) ≤ v) && _) = _
      rw [show decide (nI (hm_tkn m nc 2 j) ≤ v) = true from decide_eq_true c_94]
      rfl
    · refine r_sipush k_118_97 cs_m1003 ?_
      exact hm_T.ret m_118 k_118_100 rfl (hN (he.trans (by show (decide (nI (hm_tkn m nc 2 j) ≤ v) && _) = _; rw [show decide (nI (hm_tkn m nc 2 j) ≤ v) = false from decide_eq_false c_94]; rfl)))
def hm_lim (wk : Nat) : Int := if wk = 0 then 4 else if wk = 1 then 3 else 8
def op_house (m : hm_M) (nc wk : Nat) (v : Int32) : Int32 × hm_M := if hm_all (fun hh => decide (nI (hm_tkn m nc wk hh) ≤ v)) 400 0 = true then (m 0 wk, hm_uM m 0 (upd (m 0) wk v)) else (-1003, m)
set_option maxRecDepth 20000 in
theorem s_118_0 {d n s : Nat} {m : hm_M} {h : Nat → Option va_E} {Q : Option Value → hm_H → Prop} {nc : Nat} (hn : m 9 0 = nI nc) (hnc : nc ≤ 16) {v : Int32} (hv : 0 ≤ v.toInt ∧ v.toInt ≤ 4) (hQ : Q (some (.int (op_house m nc 0 v).1)) (hm_hM (op_house m nc 0 v).2 h n s)) : hm_T (d + 4) 118 0 [.ref 61, .int (nI 0), .int v, .retAddr 0, .retAddr 0] [] (hm_hM m h n s) Q := by
  refine r_iload_n k_118_0 rfl ?_
  refine r_i2l k_118_1 ?_
  refine r_lconst k_118_2 cl_0 ?_
  refine r_ldc2_w m_118 k_118_3 ll_8_103 ?_
  refine r_calls3 m_118 k_118_6 cl_8_84 m_119 (by decide) rfl rfl (Nat.le_of_ble_eq_true rfl) (Nat.le_of_ble_eq_true rfl) ?_
  refine s_119 ?_
  rw [if_pos (by decide)]
  refine r_if_eq k_118_9 rfl (fun z => absurd z (show ¬ (1 : Int32) = 0 by decide)) (fun c_9 => ?_)
  refine r_iload_n k_118_12 rfl ?_
  refine r_i2l k_118_13 ?_
  refine r_lconst k_118_14 cl_0 ?_
  refine r_iload_n k_118_15 rfl ?_
  refine r_if_ne k_118_16 rfl (fun z => absurd z (fun z => z (by decide))) (fun c_16 => ?_)
  refine r_ldc2_w m_118 k_118_19 ll_8_105 ?_
  refine r_goto k_118_22 rfl ?_
  refine r_calls3 m_118 k_118_39 cl_8_84 m_119 (by decide) rfl rfl (Nat.le_of_ble_eq_true rfl) (Nat.le_of_ble_eq_true rfl) ?_
  refine s_119 ?_
  rw [hm_ifc (hm_rngE2 v (a := 0) (b := 4) (lo := 0) (hi := 4) (by decide +kernel) (by decide +kernel))]
  rw [if_pos hv]
  refine r_if_ne k_118_42 rfl (fun c_42 => ?_) (fun z => absurd (show ¬ (1 : Int32) = 0 by decide) z)
  refine r_iconst k_118_49 ci_0 ?_
  refine r_istore_n k_118_50 rfl ?_
  refine l_118_0 hn hnc (fun va he => ?_) (fun he => ?_) 400 0 _ rfl (by omega) rfl
  · refine r_aload_n k_118_107 rfl ?_
    refine r_get m_118 k_118_108 fl_8_7 rfl rfl ?_
    refine r_iload_n k_118_111 rfl ?_
    refine r_ialdn (k := 0) k_118_112 rfl (Or.inl rfl) rfl (by decide) (by decide) ?_
    refine r_istore_n k_118_113 rfl ?_
    refine r_aload_n k_118_114 rfl ?_
    refine r_get m_118 k_118_115 fl_8_7 rfl rfl ?_
    refine r_iload_n k_118_118 rfl ?_
    refine r_iload_n k_118_119 rfl ?_
    refine r_iastn (k := 0) k_118_120 rfl rfl rfl (by decide) (by decide) (wM_0 _) ?_
    refine r_iload_n k_118_121 rfl ?_
    exact hm_T.ret m_118 k_118_122 rfl (by unfold op_house at hQ; rw [if_pos he] at hQ; exact hQ)
  · unfold op_house at hQ
    rw [if_neg (by rw [he]; decide)] at hQ
    exact hQ
set_option maxRecDepth 20000 in
theorem s_118_0_out {d n s : Nat} {m : hm_M} {h : Nat → Option va_E} {Q : Option Value → hm_H → Prop} {v : Int32} (hv : ¬ (0 ≤ v.toInt ∧ v.toInt ≤ 4)) (hQ : Q (some (.int (-1002))) (hm_hM m h n s)) : hm_T (d + 4) 118 0 [.ref 61, .int (nI 0), .int v, .retAddr 0, .retAddr 0] [] (hm_hM m h n s) Q := by
  refine r_iload_n k_118_0 rfl ?_
  refine r_i2l k_118_1 ?_
  refine r_lconst k_118_2 cl_0 ?_
  refine r_ldc2_w m_118 k_118_3 ll_8_103 ?_
  refine r_calls3 m_118 k_118_6 cl_8_84 m_119 (by decide) rfl rfl (Nat.le_of_ble_eq_true rfl) (Nat.le_of_ble_eq_true rfl) ?_
  refine s_119 ?_
  rw [if_pos (by decide)]
  refine r_if_eq k_118_9 rfl (fun z => absurd z (show ¬ (1 : Int32) = 0 by decide)) (fun c_9 => ?_)
  refine r_iload_n k_118_12 rfl ?_
  refine r_i2l k_118_13 ?_
  refine r_lconst k_118_14 cl_0 ?_
  refine r_iload_n k_118_15 rfl ?_
  refine r_if_ne k_118_16 rfl (fun z => absurd z (fun z => z (by decide))) (fun c_16 => ?_)
  refine r_ldc2_w m_118 k_118_19 ll_8_105 ?_
  refine r_goto k_118_22 rfl ?_
  refine r_calls3 m_118 k_118_39 cl_8_84 m_119 (by decide) rfl rfl (Nat.le_of_ble_eq_true rfl) (Nat.le_of_ble_eq_true rfl) ?_
  refine s_119 ?_
  rw [hm_ifc (hm_rngE2 v (a := 0) (b := 4) (lo := 0) (hi := 4) (by decide +kernel) (by decide +kernel))]
  rw [if_neg hv]
  refine r_if_ne k_118_42 rfl (fun z => absurd z (fun z => z rfl)) (fun c_42 => ?_)
  refine r_sipush k_118_45 cs_m1002 ?_
  exact hm_T.ret m_118 k_118_48 rfl hQ
set_option maxRecDepth 20000 in
theorem s_118_1 {d n s : Nat} {m : hm_M} {h : Nat → Option va_E} {Q : Option Value → hm_H → Prop} {nc : Nat} (hn : m 9 0 = nI nc) (hnc : nc ≤ 16) {v : Int32} (hv : 0 ≤ v.toInt ∧ v.toInt ≤ 3) (hQ : Q (some (.int (op_house m nc 1 v).1)) (hm_hM (op_house m nc 1 v).2 h n s)) : hm_T (d + 4) 118 0 [.ref 61, .int (nI 1), .int v, .retAddr 0, .retAddr 0] [] (hm_hM m h n s) Q := by
  refine r_iload_n k_118_0 rfl ?_
  refine r_i2l k_118_1 ?_
  refine r_lconst k_118_2 cl_0 ?_
  refine r_ldc2_w m_118 k_118_3 ll_8_103 ?_
  refine r_calls3 m_118 k_118_6 cl_8_84 m_119 (by decide) rfl rfl (Nat.le_of_ble_eq_true rfl) (Nat.le_of_ble_eq_true rfl) ?_
  refine s_119 ?_
  rw [if_pos (by decide)]
  refine r_if_eq k_118_9 rfl (fun z => absurd z (show ¬ (1 : Int32) = 0 by decide)) (fun c_9 => ?_)
  refine r_iload_n k_118_12 rfl ?_
  refine r_i2l k_118_13 ?_
  refine r_lconst k_118_14 cl_0 ?_
  refine r_iload_n k_118_15 rfl ?_
  refine r_if_ne k_118_16 rfl (fun c_16 => ?_) (fun z => absurd (by decide) z)
  refine r_iload_n k_118_25 rfl ?_
  refine r_iconst k_118_26 ci_1 ?_
  refine r_icmp_ne k_118_27 rfl (fun z => absurd z (fun z => z (by decide))) (fun c_27 => ?_)
  refine r_ldc2_w m_118 k_118_30 ll_8_90 ?_
  refine r_goto k_118_33 rfl ?_
  refine r_calls3 m_118 k_118_39 cl_8_84 m_119 (by decide) rfl rfl (Nat.le_of_ble_eq_true rfl) (Nat.le_of_ble_eq_true rfl) ?_
  refine s_119 ?_
  rw [hm_ifc (hm_rngE2 v (a := 0) (b := 3) (lo := 0) (hi := 3) (by decide +kernel) (by decide +kernel))]
  rw [if_pos hv]
  refine r_if_ne k_118_42 rfl (fun c_42 => ?_) (fun z => absurd (show ¬ (1 : Int32) = 0 by decide) z)
  refine r_iconst k_118_49 ci_0 ?_
  refine r_istore_n k_118_50 rfl ?_
  refine l_118_1 hn hnc (fun va he => ?_) (fun he => ?_) 400 0 _ rfl (by omega) rfl
  · refine r_aload_n k_118_107 rfl ?_
    refine r_get m_118 k_118_108 fl_8_7 rfl rfl ?_
    refine r_iload_n k_118_111 rfl ?_
    refine r_ialdn (k := 1) k_118_112 rfl (Or.inl rfl) rfl (by decide) (by decide) ?_
    refine r_istore_n k_118_113 rfl ?_
    refine r_aload_n k_118_114 rfl ?_
    refine r_get m_118 k_118_115 fl_8_7 rfl rfl ?_
    refine r_iload_n k_118_118 rfl ?_
    refine r_iload_n k_118_119 rfl ?_
    refine r_iastn (k := 1) k_118_120 rfl rfl rfl (by decide) (by decide) (wM_0 _) ?_
    refine r_iload_n k_118_121 rfl ?_
    exact hm_T.ret m_118 k_118_122 rfl (by unfold op_house at hQ; rw [if_pos he] at hQ; exact hQ)
  · unfold op_house at hQ
    rw [if_neg (by rw [he]; decide)] at hQ
    exact hQ
set_option maxRecDepth 20000 in
theorem s_118_1_out {d n s : Nat} {m : hm_M} {h : Nat → Option va_E} {Q : Option Value → hm_H → Prop} {v : Int32} (hv : ¬ (0 ≤ v.toInt ∧ v.toInt ≤ 3)) (hQ : Q (some (.int (-1002))) (hm_hM m h n s)) : hm_T (d + 4) 118 0 [.ref 61, .int (nI 1), .int v, .retAddr 0, .retAddr 0] [] (hm_hM m h n s) Q := by
  refine r_iload_n k_118_0 rfl ?_
  refine r_i2l k_118_1 ?_
  refine r_lconst k_118_2 cl_0 ?_
  refine r_ldc2_w m_118 k_118_3 ll_8_103 ?_
  refine r_calls3 m_118 k_118_6 cl_8_84 m_119 (by decide) rfl rfl (Nat.le_of_ble_eq_true rfl) (Nat.le_of_ble_eq_true rfl) ?_
  refine s_119 ?_
  rw [if_pos (by decide)]
  refine r_if_eq k_118_9 rfl (fun z => absurd z (show ¬ (1 : Int32) = 0 by decide)) (fun c_9 => ?_)
  refine r_iload_n k_118_12 rfl ?_
  refine r_i2l k_118_13 ?_
  refine r_lconst k_118_14 cl_0 ?_
  refine r_iload_n k_118_15 rfl ?_
  refine r_if_ne k_118_16 rfl (fun c_16 => ?_) (fun z => absurd (by decide) z)
  refine r_iload_n k_118_25 rfl ?_
  refine r_iconst k_118_26 ci_1 ?_
  refine r_icmp_ne k_118_27 rfl (fun z => absurd z (fun z => z (by decide))) (fun c_27 => ?_)
  refine r_ldc2_w m_118 k_118_30 ll_8_90 ?_
  refine r_goto k_118_33 rfl ?_
  refine r_calls3 m_118 k_118_39 cl_8_84 m_119 (by decide) rfl rfl (Nat.le_of_ble_eq_true rfl) (Nat.le_of_ble_eq_true rfl) ?_
  refine s_119 ?_
  rw [hm_ifc (hm_rngE2 v (a := 0) (b := 3) (lo := 0) (hi := 3) (by decide +kernel) (by decide +kernel))]
  rw [if_neg hv]
  refine r_if_ne k_118_42 rfl (fun z => absurd z (fun z => z rfl)) (fun c_42 => ?_)
  refine r_sipush k_118_45 cs_m1002 ?_
  exact hm_T.ret m_118 k_118_48 rfl hQ
set_option maxRecDepth 20000 in
theorem s_118_2 {d n s : Nat} {m : hm_M} {h : Nat → Option va_E} {Q : Option Value → hm_H → Prop} {nc : Nat} (hn : m 9 0 = nI nc) (hnc : nc ≤ 16) {v : Int32} (hv : 0 ≤ v.toInt ∧ v.toInt ≤ 8) (hQ : Q (some (.int (op_house m nc 2 v).1)) (hm_hM (op_house m nc 2 v).2 h n s)) : hm_T (d + 4) 118 0 [.ref 61, .int (nI 2), .int v, .retAddr 0, .retAddr 0] [] (hm_hM m h n s) Q := by
  refine r_iload_n k_118_0 rfl ?_
  refine r_i2l k_118_1 ?_
  refine r_lconst k_118_2 cl_0 ?_
  refine r_ldc2_w m_118 k_118_3 ll_8_103 ?_
  refine r_calls3 m_118 k_118_6 cl_8_84 m_119 (by decide) rfl rfl (Nat.le_of_ble_eq_true rfl) (Nat.le_of_ble_eq_true rfl) ?_
  refine s_119 ?_
  rw [if_pos (by decide)]
  refine r_if_eq k_118_9 rfl (fun z => absurd z (show ¬ (1 : Int32) = 0 by decide)) (fun c_9 => ?_)
  refine r_iload_n k_118_12 rfl ?_
  refine r_i2l k_118_13 ?_
  refine r_lconst k_118_14 cl_0 ?_
  refine r_iload_n k_118_15 rfl ?_
  refine r_if_ne k_118_16 rfl (fun c_16 => ?_) (fun z => absurd (by decide) z)
  refine r_iload_n k_118_25 rfl ?_
  refine r_iconst k_118_26 ci_1 ?_
  refine r_icmp_ne k_118_27 rfl (fun c_27 => ?_) (fun z => absurd (by decide) z)
  refine r_ldc2_w m_118 k_118_36 ll_8_107 ?_
  refine r_calls3 m_118 k_118_39 cl_8_84 m_119 (by decide) rfl rfl (Nat.le_of_ble_eq_true rfl) (Nat.le_of_ble_eq_true rfl) ?_
  refine s_119 ?_
  rw [hm_ifc (hm_rngE2 v (a := 0) (b := 8) (lo := 0) (hi := 8) (by decide +kernel) (by decide +kernel))]
  rw [if_pos hv]
  refine r_if_ne k_118_42 rfl (fun c_42 => ?_) (fun z => absurd (show ¬ (1 : Int32) = 0 by decide) z)
  refine r_iconst k_118_49 ci_0 ?_
  refine r_istore_n k_118_50 rfl ?_
  refine l_118_2 hn hnc (fun va he => ?_) (fun he => ?_) 400 0 _ rfl (by omega) rfl
  · refine r_aload_n k_118_107 rfl ?_
    refine r_get m_118 k_118_108 fl_8_7 rfl rfl ?_
    refine r_iload_n k_118_111 rfl ?_
    refine r_ialdn (k := 2) k_118_112 rfl (Or.inl rfl) rfl (by decide) (by decide) ?_
    refine r_istore_n k_118_113 rfl ?_
    refine r_aload_n k_118_114 rfl ?_
    refine r_get m_118 k_118_115 fl_8_7 rfl rfl ?_
    refine r_iload_n k_118_118 rfl ?_
    refine r_iload_n k_118_119 rfl ?_
    refine r_iastn (k := 2) k_118_120 rfl rfl rfl (by decide) (by decide) (wM_0 _) ?_
    refine r_iload_n k_118_121 rfl ?_
    exact hm_T.ret m_118 k_118_122 rfl (by unfold op_house at hQ; rw [if_pos he] at hQ; exact hQ)
  · unfold op_house at hQ
    rw [if_neg (by rw [he]; decide)] at hQ
    exact hQ
set_option maxRecDepth 20000 in
theorem s_118_2_out {d n s : Nat} {m : hm_M} {h : Nat → Option va_E} {Q : Option Value → hm_H → Prop} {v : Int32} (hv : ¬ (0 ≤ v.toInt ∧ v.toInt ≤ 8)) (hQ : Q (some (.int (-1002))) (hm_hM m h n s)) : hm_T (d + 4) 118 0 [.ref 61, .int (nI 2), .int v, .retAddr 0, .retAddr 0] [] (hm_hM m h n s) Q := by
  refine r_iload_n k_118_0 rfl ?_
  refine r_i2l k_118_1 ?_
  refine r_lconst k_118_2 cl_0 ?_
  refine r_ldc2_w m_118 k_118_3 ll_8_103 ?_
  refine r_calls3 m_118 k_118_6 cl_8_84 m_119 (by decide) rfl rfl (Nat.le_of_ble_eq_true rfl) (Nat.le_of_ble_eq_true rfl) ?_
  refine s_119 ?_
  rw [if_pos (by decide)]
  refine r_if_eq k_118_9 rfl (fun z => absurd z (show ¬ (1 : Int32) = 0 by decide)) (fun c_9 => ?_)
  refine r_iload_n k_118_12 rfl ?_
  refine r_i2l k_118_13 ?_
  refine r_lconst k_118_14 cl_0 ?_
  refine r_iload_n k_118_15 rfl ?_
  refine r_if_ne k_118_16 rfl (fun c_16 => ?_) (fun z => absurd (by decide) z)
  refine r_iload_n k_118_25 rfl ?_
  refine r_iconst k_118_26 ci_1 ?_
  refine r_icmp_ne k_118_27 rfl (fun c_27 => ?_) (fun z => absurd (by decide) z)
  refine r_ldc2_w m_118 k_118_36 ll_8_107 ?_
  refine r_calls3 m_118 k_118_39 cl_8_84 m_119 (by decide) rfl rfl (Nat.le_of_ble_eq_true rfl) (Nat.le_of_ble_eq_true rfl) ?_
  refine s_119 ?_
  rw [hm_ifc (hm_rngE2 v (a := 0) (b := 8) (lo := 0) (hi := 8) (by decide +kernel) (by decide +kernel))]
  rw [if_neg hv]
  refine r_if_ne k_118_42 rfl (fun z => absurd z (fun z => z rfl)) (fun c_42 => ?_)
  refine r_sipush k_118_45 cs_m1002 ?_
  exact hm_T.ret m_118 k_118_48 rfl hQ
set_option maxRecDepth 20000 in
theorem s_118_bad {d n s : Nat} {m : hm_M} {h : Nat → Option va_E} {Q : Option Value → hm_H → Prop} {w v : Int32} (hw : ¬ (0 ≤ w.toInt ∧ w.toInt ≤ 2)) (hQ : Q (some (.int (-1002))) (hm_hM m h n s)) : hm_T (d + 4) 118 0 [.ref 61, .int w, .int v, .retAddr 0, .retAddr 0] [] (hm_hM m h n s) Q := by
  refine r_iload_n k_118_0 rfl ?_
  refine r_i2l k_118_1 ?_
  refine r_lconst k_118_2 cl_0 ?_
  refine r_ldc2_w m_118 k_118_3 ll_8_103 ?_
  refine r_calls3 m_118 k_118_6 cl_8_84 m_119 (by decide) rfl rfl (Nat.le_of_ble_eq_true rfl) (Nat.le_of_ble_eq_true rfl) ?_
  refine s_119 ?_
  rw [hm_ifc (hm_rngE2 w (a := 0) (b := 2) (lo := 0) (hi := 2) (by decide +kernel) (by decide +kernel))]
  rw [if_neg hw]
  refine r_if_eq k_118_9 rfl (fun c_9 => ?_) (fun z => absurd rfl z)
  refine r_sipush k_118_45 cs_m1002 ?_
  exact hm_T.ret m_118 k_118_48 rfl hQ
def hm_opk (m : hm_M) (nc hh : Nat) : Bool := decide (nI (hm_cnt (fun c => decide (m 15 (4 * c + 1) = nI hh)) nc) ≤ hm_sg (fun k => m 1 k >>> ((nI hh - nI hh / nI 10 * nI 10) &&& 31) &&& nI 1) 3)
set_option maxRecDepth 20000 in
theorem l_125 {d n s : Nat} {m : hm_M} {h : Nat → Option va_E} {Q : Option Value → hm_H → Prop} {nc : Nat} (hn : m 9 0 = nI nc) (hnc : nc ≤ 16) {ck : Nat} (hck : ck < 3) {v was : Int32} (hK : hm_all (hm_opk m nc) 400 0 = true → Q (some (.int was)) (hm_hM m h n s)) (hN : hm_all (hm_opk m nc) 400 0 = false → Q (some (.int (-1003))) (hm_hM (hm_uM m 1 (upd (m 1) ck was)) h n s)) : ∀ (k j : Nat), j + k = 400 → hm_all (hm_opk m nc) 400 0 = hm_all (hm_opk m nc) k j → hm_T (d + 2) 125 49 [.ref 61, .int (nI ck), .int v, .int was, .int (nI j)] [] (hm_hM m h n s) Q := by
  intro k
  induction k with
  | zero =>
    intro j hj he
    refine r_iload k_125_49 rfl ?_
    refine r_sipush k_125_51 cs_400 ?_
    refine r_icmp_ge k_125_54 rfl (fun c_54 => ?_) (fun z => absurd (nI_le (show 400 ≤ j by omega) (by omega)) z)
    refine r_iload_n k_125_90 rfl ?_
    exact hm_T.ret m_125 k_125_91 rfl (hK he)
  | succ k ih =>
    intro j hj he
    refine r_iload k_125_49 rfl ?_
    refine r_sipush k_125_51 cs_400 ?_
    refine r_icmp_ge k_125_54 rfl (fun z => absurd z (nI_ge (show j < 400 by omega) (by omega))) (fun c_54 => ?_)
    refine r_aload_n k_125_57 rfl ?_
    refine r_iload k_125_58 rfl ?_
    refine r_iconst k_125_60 ci_1 ?_
    refine r_callv3 m_125 k_125_61 cl_8_96 m_121 (by decide) rfl rfl (Nat.le_of_ble_eq_true rfl) (Nat.le_of_ble_eq_true rfl) rfl rfl ?_
    refine s_121 (t := 1) hn hnc (by decide) ?_
    refine r_aload_n k_125_64 rfl ?_
    refine r_iload k_125_65 rfl ?_
    refine r_callv2 m_125 k_125_67 cl_8_117 m_126 (by decide) rfl rfl (Nat.le_of_ble_eq_true rfl) (Nat.le_of_ble_eq_true rfl) rfl rfl ?_
    refine s_126 ?_
    refine r_icmp_le k_125_70 rfl (fun c_70 => ?_) (fun c_70 => ?_)
    · refine r_iincn k_125_84 rfl (nI_inc j) rfl ?_
      refine r_goto k_125_87 rfl ?_
      refine ih (j + 1) (by omega) (he.trans ?_)
      show (hm_opk m nc j && _) = _
      rw [show hm_opk m nc j = true from decide_eq_true c_70]
      rfl
    · refine r_aload_n k_125_73 rfl ?_
      refine r_get m_125 k_125_74 fl_8_13 rfl rfl ?_
      refine r_iload_n k_125_77 rfl ?_
      refine r_iload_n k_125_78 rfl ?_
      refine r_iastn (k := ck) k_125_79 rfl rfl rfl (by omega) (by decide) (wM_1 _) ?_
      refine r_sipush k_125_80 cs_m1003 ?_
      exact hm_T.ret m_125 k_125_83 rfl (hN (he.trans (by show (hm_opk m nc j && _) = _; rw [show hm_opk m nc j = false from decide_eq_false c_70]; rfl)))
set_option maxRecDepth 20000 in
theorem s_125_bad {d n s : Nat} {m : hm_M} {h : Nat → Option va_E} {Q : Option Value → hm_H → Prop} {c v : Int32} (hw : ¬ (0 ≤ c.toInt ∧ c.toInt ≤ 2)) (hQ : Q (some (.int (-1001))) (hm_hM m h n s)) : hm_T (d + 3) 125 0 [.ref 61, .int c, .int v, .retAddr 0, .retAddr 0] [] (hm_hM m h n s) Q := by
  refine r_iload_n k_125_0 rfl ?_
  refine r_i2l k_125_1 ?_
  refine r_lconst k_125_2 cl_0 ?_
  refine r_ldc2_w m_125 k_125_3 ll_8_103 ?_
  refine r_calls3 m_125 k_125_6 cl_8_84 m_119 (by decide) rfl rfl (Nat.le_of_ble_eq_true rfl) (Nat.le_of_ble_eq_true rfl) ?_
  refine s_119 ?_
  rw [hm_ifc (hm_rngE2 c (a := 0) (b := 2) (lo := 0) (hi := 2) (by decide +kernel) (by decide +kernel))]
  rw [if_neg hw]
  refine r_if_ne k_125_9 rfl (fun z => absurd z (fun z => z rfl)) (fun c_9 => ?_)
  refine r_sipush k_125_12 cs_m1001 ?_
  exact hm_T.ret m_125 k_125_15 rfl hQ
set_option maxRecDepth 20000 in
theorem s_125_out {d n s : Nat} {m : hm_M} {h : Nat → Option va_E} {Q : Option Value → hm_H → Prop} {ck : Nat} (hck : ck < 3) {v : Int32} (hw : ¬ (0 ≤ v.toInt ∧ v.toInt ≤ 1023)) (hQ : Q (some (.int (-1002))) (hm_hM m h n s)) : hm_T (d + 3) 125 0 [.ref 61, .int (nI ck), .int v, .retAddr 0, .retAddr 0] [] (hm_hM m h n s) Q := by
  refine r_iload_n k_125_0 rfl ?_
  refine r_i2l k_125_1 ?_
  refine r_lconst k_125_2 cl_0 ?_
  refine r_ldc2_w m_125 k_125_3 ll_8_103 ?_
  refine r_calls3 m_125 k_125_6 cl_8_84 m_119 (by decide) rfl rfl (Nat.le_of_ble_eq_true rfl) (Nat.le_of_ble_eq_true rfl) ?_
  refine s_119 ?_
  rw [hm_ifc (hm_rngE2 (nI ck) (a := 0) (b := 2) (lo := 0) (hi := 2) (by decide +kernel) (by decide +kernel)), if_pos (by rw [nI_toInt (by omega)]; omega)]
  refine r_if_ne k_125_9 rfl (fun c_9 => ?_) (fun z => absurd (show ¬ (1 : Int32) = 0 by decide) z)
  refine r_iload_n k_125_16 rfl ?_
  refine r_i2l k_125_17 ?_
  refine r_lconst k_125_18 cl_0 ?_
  refine r_ldc2_w m_125 k_125_19 ll_8_115 ?_
  refine r_calls3 m_125 k_125_22 cl_8_84 m_119 (by decide) rfl rfl (Nat.le_of_ble_eq_true rfl) (Nat.le_of_ble_eq_true rfl) ?_
  refine s_119 ?_
  rw [hm_ifc (hm_rngE2 v (a := 0) (b := 1023) (lo := 0) (hi := 1023) (by decide +kernel) (by decide +kernel))]
  rw [if_neg hw]
  refine r_if_ne k_125_25 rfl (fun z => absurd z (fun z => z rfl)) (fun c_25 => ?_)
  refine r_sipush k_125_28 cs_m1002 ?_
  exact hm_T.ret m_125 k_125_31 rfl hQ
def op_open (m : hm_M) (nc ck : Nat) (v : Int32) : Int32 × hm_M := if hm_all (hm_opk (hm_uM m 1 (upd (m 1) ck v)) nc) 400 0 = true then (m 1 ck, hm_uM m 1 (upd (m 1) ck v)) else (-1003, m)
theorem hm_uM2 (m : hm_M) (k : Nat) (f g : Nat → Int32) : hm_uM (hm_uM m k f) k g = hm_uM m k g := by
  funext j
  unfold hm_uM
  by_cases hj : j = k
  · rw [if_pos hj, if_pos hj]
  · rw [if_neg hj, if_neg hj, if_neg hj]
theorem hm_uMs (m : hm_M) (k : Nat) : hm_uM m k (m k) = m := by
  funext j
  unfold hm_uM
  by_cases hj : j = k
  · rw [if_pos hj, hj]
  · rw [if_neg hj]
theorem hm_uMo (m : hm_M) {k j : Nat} (f : Nat → Int32) (hj : ¬ j = k) : hm_uM m k f j = m j := if_neg hj
theorem hm_uMe (m : hm_M) (k : Nat) (f : Nat → Int32) : hm_uM m k f k = f := if_pos rfl
theorem upd_upd (f : Nat → Int32) (k : Nat) (x y : Int32) : upd (upd f k x) k y = upd f k y := by
  funext j
  unfold upd
  by_cases hj : j = k
  · rw [if_pos hj, if_pos hj]
  · rw [if_neg hj, if_neg hj, if_neg hj]
theorem upd_self (f : Nat → Int32) (k : Nat) : upd f k (f k) = f := by
  funext j
  unfold upd
  by_cases hj : j = k
  · rw [if_pos hj, hj]
  · rw [if_neg hj]
set_option maxRecDepth 20000 in
theorem s_125 {d n s : Nat} {m : hm_M} {h : Nat → Option va_E} {Q : Option Value → hm_H → Prop} {nc : Nat} (hn : m 9 0 = nI nc) (hnc : nc ≤ 16) {ck : Nat} (hck : ck < 3) {v : Int32} (hv : 0 ≤ v.toInt ∧ v.toInt ≤ 1023) (hQ : Q (some (.int (op_open m nc ck v).1)) (hm_hM (op_open m nc ck v).2 h n s)) : hm_T (d + 3) 125 0 [.ref 61, .int (nI ck), .int v, .retAddr 0, .retAddr 0] [] (hm_hM m h n s) Q := by
  refine r_iload_n k_125_0 rfl ?_
  refine r_i2l k_125_1 ?_
  refine r_lconst k_125_2 cl_0 ?_
  refine r_ldc2_w m_125 k_125_3 ll_8_103 ?_
  refine r_calls3 m_125 k_125_6 cl_8_84 m_119 (by decide) rfl rfl (Nat.le_of_ble_eq_true rfl) (Nat.le_of_ble_eq_true rfl) ?_
  refine s_119 ?_
  rw [hm_ifc (hm_rngE2 (nI ck) (a := 0) (b := 2) (lo := 0) (hi := 2) (by decide +kernel) (by decide +kernel)), if_pos (by rw [nI_toInt (by omega)]; omega)]
  refine r_if_ne k_125_9 rfl (fun c_9 => ?_) (fun z => absurd (show ¬ (1 : Int32) = 0 by decide) z)
  refine r_iload_n k_125_16 rfl ?_
  refine r_i2l k_125_17 ?_
  refine r_lconst k_125_18 cl_0 ?_
  refine r_ldc2_w m_125 k_125_19 ll_8_115 ?_
  refine r_calls3 m_125 k_125_22 cl_8_84 m_119 (by decide) rfl rfl (Nat.le_of_ble_eq_true rfl) (Nat.le_of_ble_eq_true rfl) ?_
  refine s_119 ?_
  rw [hm_ifc (hm_rngE2 v (a := 0) (b := 1023) (lo := 0) (hi := 1023) (by decide +kernel) (by decide +kernel))]
  rw [if_pos hv]
  refine r_if_ne k_125_25 rfl (fun c_25 => ?_) (fun z => absurd (show ¬ (1 : Int32) = 0 by decide) z)
  refine r_aload_n k_125_32 rfl ?_
  refine r_get m_125 k_125_33 fl_8_13 rfl rfl ?_
  refine r_iload_n k_125_36 rfl ?_
  refine r_ialdn (k := ck) k_125_37 rfl (Or.inl rfl) rfl (by omega) (by decide) ?_
  refine r_istore_n k_125_38 rfl ?_
  refine r_aload_n k_125_39 rfl ?_
  refine r_get m_125 k_125_40 fl_8_13 rfl rfl ?_
  refine r_iload_n k_125_43 rfl ?_
  refine r_iload_n k_125_44 rfl ?_
  refine r_iastn (k := ck) k_125_45 rfl rfl rfl (by omega) (by decide) (wM_1 _) ?_
  refine r_iconst k_125_46 ci_0 ?_
  refine r_istore k_125_47 rfl ?_
  refine l_125 (m := hm_uM m 1 (upd (m 1) ck v)) hn hnc hck (fun he => ?_) (fun he => ?_) 400 0 (by omega) rfl
  · unfold op_open at hQ
    rw [if_pos he] at hQ
    exact hQ
  · unfold op_open at hQ
    rw [if_neg (by rw [he]; decide)] at hQ
    rw [hm_uM2, hm_uMe, upd_upd, upd_self, hm_uMs]
    exact hQ
