theorem r_retz {d M pc : Nat} {ls : List Value} {hp : hm_H} {Q : Option Value → hm_H → Prop} {q : hm_Q} {x : Int32} (hq : hm_mtab[M]? = some q) (hI : hm_code M pc = some .ireturn) (hr : q.2.2.2.1 = some .boolean) (hx : x = 0 ∨ x = 1) (h : Q (some (.int x)) hp) : hm_T d M pc ls [.int x] hp Q := by
  refine hm_T.ret hq hI ?_ h
  rw [hr]
  exact if_pos hx
theorem hm_b01 {P : Prop} [Decidable P] : (if P then (1 : Int32) else 0) = 0 ∨ (if P then (1 : Int32) else 0) = 1 := by
  by_cases h : P
  · exact Or.inr (if_pos h)
  · exact Or.inl (if_neg h)
theorem hm_ifc {P P2 : Prop} [Decidable P] [Decidable P2] (h : P ↔ P2) : (if P then (1 : Int32) else 0) = (if P2 then 1 else 0) := by
  by_cases hp : P
  · rw [if_pos hp, if_pos (h.mp hp)]
  · rw [if_neg hp, if_neg (fun z => hp (h.mpr z))]
theorem nI_mul (a b : Nat) : nI a * nI b = nI (a * b) := (Int32.ofNat_mul a b).symm
theorem hm_rngE (x : Int32) {b : Int64} {hi : Int} (hb : b.toInt = hi) : ((0 : Int64).toInt ≤ x.toInt64.toInt ∧ x.toInt64.toInt ≤ b.toInt) ↔ (0 ≤ x.toInt ∧ x.toInt ≤ hi) := by
  rw [Int32.toInt_toInt64, hb]
  exact Iff.rfl
theorem nI_sub1 (c : Nat) (h : c < 2 ^ 31) : (nI c - nI 1).toInt = (c : Int) - 1 := by
  cases c with
  | zero => decide +kernel
  | succ c =>
    rw [show nI 1 = 1 from rfl, nI_pred, nI_toInt (by omega)]
    omega
theorem hm_caseE (c : Int32) {nc : Nat} (h : nc ≤ 16) : ((0 : Int64).toInt ≤ c.toInt64.toInt ∧ c.toInt64.toInt ≤ (nI nc - nI 1).toInt64.toInt) ↔ (0 ≤ c.toInt ∧ c.toInt < nc) := by
  rw [Int32.toInt_toInt64, Int32.toInt_toInt64, nI_sub1 nc (by omega)]
  constructor
  · rintro ⟨h1, h2⟩
    exact ⟨h1, by omega⟩
  · rintro ⟨h1, h2⟩
    exact ⟨h1, by omega⟩
/-- a number in its range is a small number -/
theorem hm_nIof {x : Int32} {N : Nat} (h0 : 0 ≤ x.toInt) (h1 : x.toInt < N) : ∃ k : Nat, k < N ∧ x = nI k ∧ x.toInt = k := by
  refine ⟨x.toInt.toNat, by omega, ?_, by omega⟩
  apply Int32.toInt_inj.mp
  have h2 : x.toInt < 2 ^ 31 := Int32.toInt_lt x
  rw [nI_toInt (by omega)]
  omega
set_option maxRecDepth 20000 in
theorem s_119 {d : Nat} {hp : hm_H} {Q : Option Value → hm_H → Prop} {v a b : Int64} (hQ : Q (some (.int (if a.toInt ≤ v.toInt ∧ v.toInt ≤ b.toInt then 1 else 0))) hp) : hm_T d 119 0 [.long v, .retAddr 0, .long a, .retAddr 0, .long b, .retAddr 0] [] hp Q := by
  refine r_lload_n k_119_0 rfl ?_
  refine r_lload_n k_119_1 rfl ?_
  refine r_lcmp k_119_2 ?_
  refine r_if_lt k_119_3 rfl (fun c_3 => ?_) (fun c_3 => ?_)
  · refine r_iconst k_119_17 ci_0 ?_
    exact hm_T.ret m_119 k_119_18 rfl (by rw [lg_cmp_lt, Int64.lt_iff_toInt_lt] at c_3; rw [if_neg (by omega)] at hQ; exact hQ)
  · refine r_lload_n k_119_6 rfl ?_
    refine r_lload k_119_7 rfl ?_
    refine r_lcmp k_119_9 ?_
    refine r_if_gt k_119_10 rfl (fun c_10 => ?_) (fun c_10 => ?_)
    · refine r_iconst k_119_17 ci_0 ?_
      exact hm_T.ret m_119 k_119_18 rfl (by rw [lg_cmp_gt, Int64.lt_iff_toInt_lt] at c_10; rw [if_neg (by omega)] at hQ; exact hQ)
    · refine r_iconst k_119_13 ci_1 ?_
      refine r_goto k_119_14 rfl ?_
      exact hm_T.ret m_119 k_119_18 rfl (by rw [lg_cmp_lt, Int64.lt_iff_toInt_lt] at c_3; rw [lg_cmp_gt, Int64.lt_iff_toInt_lt] at c_10; rw [if_pos (by omega)] at hQ; exact hQ)
set_option maxRecDepth 20000 in
theorem s_148 {d n s : Nat} {m : hm_M} {h : Nat → Option va_E} {Q : Option Value → hm_H → Prop} {c : Int32} {nc : Nat} (hn : m 9 0 = nI nc) (hnc : nc ≤ 16) (hQ : Q (some (.int (if 0 ≤ c.toInt ∧ c.toInt < nc then 1 else 0))) (hm_hM m h n s)) : hm_T (d + 1) 148 0 [.ref 61, .int c] [] (hm_hM m h n s) Q := by
  refine r_iload_n k_148_0 rfl ?_
  refine r_i2l k_148_1 ?_
  refine r_lconst k_148_2 cl_0 ?_
  refine r_aload_n k_148_3 rfl ?_
  refine r_get m_148 k_148_4 fl_8_81 rfl rfl ?_
  rw [hn]
  refine r_iconst k_148_7 ci_1 ?_
  refine r_isub k_148_8 ?_
  refine r_i2l k_148_9 ?_
  refine r_calls3 m_148 k_148_10 cl_8_84 m_119 (by decide) rfl rfl (Nat.le_of_ble_eq_true rfl) (Nat.le_of_ble_eq_true rfl) ?_
  refine s_119 ?_
  exact r_retz m_148 k_148_13 rfl hm_b01 (by rw [hm_ifc (hm_caseE c hnc)]; exact hQ)
set_option maxRecDepth 20000 in
theorem s_167 {d n s : Nat} {m : hm_M} {h : Nat → Option va_E} {Q : Option Value → hm_H → Prop} {c : Int32} {np : Nat} (hn : m 18 0 = nI np) (hnc : np ≤ 16) (hQ : Q (some (.int (if 0 ≤ c.toInt ∧ c.toInt < np then 1 else 0))) (hm_hM m h n s)) : hm_T (d + 1) 167 0 [.ref 61, .int c] [] (hm_hM m h n s) Q := by
  refine r_iload_n k_167_0 rfl ?_
  refine r_i2l k_167_1 ?_
  refine r_lconst k_167_2 cl_0 ?_
  refine r_aload_n k_167_3 rfl ?_
  refine r_get m_167 k_167_4 fl_8_232 rfl rfl ?_
  rw [hn]
  refine r_iconst k_167_7 ci_1 ?_
  refine r_isub k_167_8 ?_
  refine r_i2l k_167_9 ?_
  refine r_calls3 m_167 k_167_10 cl_8_84 m_119 (by decide) rfl rfl (Nat.le_of_ble_eq_true rfl) (Nat.le_of_ble_eq_true rfl) ?_
  refine s_119 ?_
  exact r_retz m_167 k_167_13 rfl hm_b01 (by rw [hm_ifc (hm_caseE c hnc)]; exact hQ)
set_option maxRecDepth 20000 in
theorem s_146 {d : Nat} {hp : hm_H} {Q : Option Value → hm_H → Prop} {x : Int32} (hQ : Q (some (.int (if 0 ≤ x.toInt ∧ x.toInt ≤ 399 then 1 else 0))) hp) : hm_T (d + 1) 146 0 [.int x] [] hp Q := by
  refine r_iload_n k_146_0 rfl ?_
  refine r_i2l k_146_1 ?_
  refine r_lconst k_146_2 cl_0 ?_
  refine r_ldc2_w m_146 k_146_3 ll_8_88 ?_
  refine r_calls3 m_146 k_146_6 cl_8_84 m_119 (by decide) rfl rfl (Nat.le_of_ble_eq_true rfl) (Nat.le_of_ble_eq_true rfl) ?_
  refine s_119 ?_
  exact r_retz m_146 k_146_9 rfl hm_b01 (by rw [hm_ifc (hm_rngE x (b := 399) (hi := 399) (by decide +kernel))]; exact hQ)
set_option maxRecDepth 20000 in
theorem s_144 {d : Nat} {hp : hm_H} {Q : Option Value → hm_H → Prop} {x : Int32} (hQ : Q (some (.int (if 0 ≤ x.toInt ∧ x.toInt ≤ 3 then 1 else 0))) hp) : hm_T (d + 1) 144 0 [.int x] [] hp Q := by
  refine r_iload_n k_144_0 rfl ?_
  refine r_i2l k_144_1 ?_
  refine r_lconst k_144_2 cl_0 ?_
  refine r_ldc2_w m_144 k_144_3 ll_8_90 ?_
  refine r_calls3 m_144 k_144_6 cl_8_84 m_119 (by decide) rfl rfl (Nat.le_of_ble_eq_true rfl) (Nat.le_of_ble_eq_true rfl) ?_
  refine s_119 ?_
  exact r_retz m_144 k_144_9 rfl hm_b01 (by rw [hm_ifc (hm_rngE x (b := 3) (hi := 3) (by decide +kernel))]; exact hQ)
set_option maxRecDepth 20000 in
theorem s_122 {d n s : Nat} {m : hm_M} {h : Nat → Option va_E} {Q : Option Value → hm_H → Prop} {c t : Nat} (hc : c < 16) (ht : t < 4) (hQ : Q (some (.int (m 15 (4 * c + t)))) (hm_hM m h n s)) : hm_T d 122 0 [.ref 61, .int (nI c), .int (nI t)] [] (hm_hM m h n s) Q := by
  refine r_aload_n k_122_0 rfl ?_
  refine r_get m_122 k_122_1 fl_8_47 rfl rfl ?_
  refine r_iconst k_122_4 ci_4 ?_
  refine r_iload_n k_122_5 rfl ?_
  refine r_imul k_122_6 ?_
  refine r_iload_n k_122_7 rfl ?_
  refine r_iadd k_122_8 ?_
  refine r_ialdn (k := 4 * c + t) k_122_9 rfl (Or.inl rfl) (by rw [nI_mul, nI_add]) (by omega) (by decide) ?_
  exact hm_T.ret m_122 k_122_10 rfl hQ
set_option maxRecDepth 20000 in
theorem s_138 {d n s : Nat} {m : hm_M} {h : Nat → Option va_E} {Q : Option Value → hm_H → Prop} {c t w f : Nat} (hc : c < 16) (ht : t < 4) (hw : w < 5) (hf : m 10 c = nI f) (hf4 : f < 4) (hQ : Q (some (.int (m 4 (20 * f + 5 * t + w)))) (hm_hM m h n s)) : hm_T d 138 0 [.ref 61, .int (nI c), .int (nI t), .int (nI w)] [] (hm_hM m h n s) Q := by
  refine r_aload_n k_138_0 rfl ?_
  refine r_get m_138 k_138_1 fl_8_19 rfl rfl ?_
  refine r_bipush k_138_4 cb_20 ?_
  refine r_aload_n k_138_6 rfl ?_
  refine r_get m_138 k_138_7 fl_8_32 rfl rfl ?_
  refine r_iload_n k_138_10 rfl ?_
  refine r_ialdn (k := c) k_138_11 rfl (Or.inl rfl) rfl (by omega) (by decide) ?_
  refine r_imul k_138_12 ?_
  refine r_iconst k_138_13 ci_5 ?_
  refine r_iload_n k_138_14 rfl ?_
  refine r_imul k_138_15 ?_
  refine r_iadd k_138_16 ?_
  refine r_iload_n k_138_17 rfl ?_
  refine r_iadd k_138_18 ?_
  refine r_ialdn (k := 20 * f + 5 * t + w) k_138_19 rfl (Or.inl rfl) (by rw [hf, nI_mul, nI_mul, nI_add, nI_add]) (by omega) (by decide) ?_
  exact hm_T.ret m_138 k_138_20 rfl hQ
