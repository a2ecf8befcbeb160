set_option maxRecDepth 20000 in
theorem s_129_bad {d n s : Nat} {m : hm_M} {h : Nat → Option va_E} {Q : Option Value → hm_H → Prop} {f : Int32} (hx : ¬ (0 ≤ f.toInt ∧ f.toInt ≤ 3)) (hQ : Q (some (.int (-1001))) (hm_hM m h n s)) : hm_T (d + 4) 129 0 [.ref 61, .int f, .retAddr 0, .retAddr 0] [] (hm_hM m h n s) Q := by
  refine r_iload_n k_129_0 rfl ?_
  refine r_i2l k_129_1 ?_
  refine r_lconst k_129_2 cl_0 ?_
  refine r_ldc2_w m_129 k_129_3 ll_8_90 ?_
  refine r_calls3 m_129 k_129_6 cl_8_84 m_119 (by decide) rfl rfl (Nat.le_of_ble_eq_true rfl) (Nat.le_of_ble_eq_true rfl) ?_
  refine s_119 ?_
  rw [hm_ifc (hm_rngE2 f (a := 0) (b := 3) (lo := 0) (hi := 3) (by decide +kernel) (by decide +kernel))]
  rw [if_neg hx]
  refine r_if_ne k_129_9 rfl (fun z => absurd z (fun z => z rfl)) (fun c_9 => ?_)
  refine r_sipush k_129_12 cs_m1001 ?_
  exact hm_T.ret m_129 k_129_15 rfl hQ
def hm_lc (F : Nat → Int32) (b : Nat) : Nat → Nat → (Nat → Int32) → Nat → Int32
  | 0, _, L => L
  | k + 1, j, L => hm_lc F b k (j + 1) (upd L (b + j) (F j))
/-- the state behind a law that was read: its fault's place, no text -/
def hm_lw (m : hm_M) (a : Nat) (F : Nat → Int32) (pl : Int32) : hm_M := hm_uM (hm_uM (hm_pa (hm_uM m 8 (fun _ => -1)) a F) 8 (fun _ => pl)) 7 (fun _ => nI 0)
def hm_lawok (m : hm_M) (a : Nat) (F : Nat → Int32) (f : Nat) : hm_M := hm_uM (hm_uM (hm_pa (hm_uM m 8 (fun _ => -1)) a F) 7 (fun _ => nI 0)) 4 (hm_lc F (20 * f) 20 0 (m 4))
set_option maxRecDepth 20000 in
theorem l_129 {d n s : Nat} {m : hm_M} {h : Nat → Option va_E} {Q : Option Value → hm_H → Prop} {f : Nat} (hf : f < 4) : ∀ (k j : Nat) (L : Nat → Int32), j + k = 20 → hm_T d 129 71 [.ref 61, .int (nI f), .int (nI 0), .int (nI 20)] [] (hm_hM (hm_uM m 4 (hm_lc (m 5) (20 * f) k j L)) h n s) Q → hm_T d 129 42 [.ref 61, .int (nI f), .int (nI 0), .int (nI j)] [] (hm_hM (hm_uM m 4 L) h n s) Q := by
  intro k
  induction k with
  | zero =>
    intro j L hj hK
    refine r_iload_n k_129_42 rfl ?_
    refine r_bipush k_129_43 cb_20 ?_
    refine r_icmp_ge k_129_45 rfl (fun c_45 => ?_) (fun z => absurd (nI_le (show 20 ≤ j by omega) (by omega)) z)
    rw [show j = 20 by omega]
    exact hK
  | succ k ih =>
    intro j L hj hK
    refine r_iload_n k_129_42 rfl ?_
    refine r_bipush k_129_43 cb_20 ?_
    refine r_icmp_ge k_129_45 rfl (fun z => absurd z (nI_ge (show j < 20 by omega) (by omega))) (fun c_45 => ?_)
    refine r_aload_n k_129_48 rfl ?_
    refine r_get m_129 k_129_49 fl_8_19 rfl rfl ?_
    refine r_bipush k_129_52 cb_20 ?_
    refine r_iload_n k_129_54 rfl ?_
    refine r_imul k_129_55 ?_
    refine r_iload_n k_129_56 rfl ?_
    refine r_iadd k_129_57 ?_
    refine r_aload_n k_129_58 rfl ?_
    refine r_get m_129 k_129_59 fl_8_22 rfl rfl ?_
    refine r_iload_n k_129_62 rfl ?_
    refine r_ialdn (k := j) k_129_63 rfl (Or.inl rfl) rfl (by omega) (by decide) ?_
    refine r_iastn (k := 20 * f + j) k_129_64 rfl rfl (by rw [nI_mul, nI_add]) (by omega) (by decide) ((wM_4 _).trans (by rw [hm_uM2])) ?_
    refine r_iincn k_129_65 rfl (nI_inc j) rfl ?_
    refine r_goto k_129_68 rfl ?_
    exact ih (j + 1) _ (by omega) hK
set_option maxRecDepth 20000 in
theorem s_129 {d n s : Nat} {m : hm_M} {h : Nat → Option va_E} {Q : Option Value → hm_H → Prop} {nc : Nat} (hn : m 9 0 = nI nc) (hnc : nc ≤ 16) {N : Nat} (hN : m 7 0 = nI N) (hN1 : N ≤ 100) (hT0 : ∀ i, i < N → 0 ≤ m 6 i) (hF : ∀ c, c < nc → ∃ f, m 10 c = nI f ∧ f < 4) {f : Nat} (hf : f < 4) {R : hm_PR} (hR : hm_A (m 6) N 0 0 0 0 (nI 0) (hm_f0 20 0 (m 5)) = R) (hQ0 : R.1 = nI 0 → ∀ a2, ∃ k r, hm_pr (-1) (nI f) nc k (hm_lawok m a2 R.2.2 f) 0 0 = some r ∧ Q (some (.int (nI r.1))) (hm_hM (hm_un r) h n s)) (hQ1 : ∀ q, 0 < q → q < 6 → R.1 = nI q → ∀ a2 F2, Q (some (.int (-10 - nI q))) (hm_hM (hm_lw m a2 F2 R.2.1) h n s)) : hm_T (d + 4) 129 0 [.ref 61, .int (nI f), .retAddr 0, .retAddr 0] [] (hm_hM m h n s) Q := by
  refine r_iload_n k_129_0 rfl ?_
  refine r_i2l k_129_1 ?_
  refine r_lconst k_129_2 cl_0 ?_
  refine r_ldc2_w m_129 k_129_3 ll_8_90 ?_
  refine r_calls3 m_129 k_129_6 cl_8_84 m_119 (by decide) rfl rfl (Nat.le_of_ble_eq_true rfl) (Nat.le_of_ble_eq_true rfl) ?_
  refine s_119 ?_
  rw [hm_ifc (hm_rngE2 (nI f) (a := 0) (b := 3) (lo := 0) (hi := 3) (by decide +kernel) (by decide +kernel))]
  rw [if_pos (by rw [nI_toInt (by omega)]; omega)]
  refine r_if_ne k_129_9 rfl (fun c_9 => ?_) (fun z => absurd (show ¬ (1 : Int32) = 0 by decide) z)
  refine r_aload_n k_129_16 rfl ?_
  refine r_iconst k_129_17 ci_m1 ?_
  refine r_put m_129 k_129_18 fl_8_28 rfl (Nat.le_of_ble_eq_true rfl) rfl rfl (wM_8 _) ?_
  refine r_aload_n k_129_21 rfl ?_
  refine r_callv1 m_129 k_129_22 cl_8_159 m_130 (by decide) rfl rfl (Nat.le_of_ble_eq_true rfl) (Nat.le_of_ble_eq_true rfl) rfl rfl ?_
  refine s_130 (m := hm_uM m 8 (fun _ => -1)) hN hN1 hT0 (fun e a2 => ?_) (fun q hq hq6 e a2 F2 => ?_) hR
  · refine r_istore_n k_129_25 rfl ?_
    refine r_aload_n k_129_26 rfl ?_
    refine r_iconst k_129_27 ci_0 ?_
    refine r_put m_129 k_129_28 fl_8_127 rfl (Nat.le_of_ble_eq_true rfl) rfl rfl (wM_7 _) ?_
    refine r_iload_n k_129_31 rfl ?_
    refine r_if_le k_129_32 rfl (fun c_32 => ?_) (fun z => absurd (by decide) z)
    refine r_iconst k_129_40 ci_0 ?_
    refine r_istore_n k_129_41 rfl ?_
    rw [show hm_uM (hm_pa (hm_uM m 8 (fun _ => -1)) a2 R.2.2) 7 (fun _ => nI 0) = hm_uM (hm_uM (hm_pa (hm_uM m 8 (fun _ => -1)) a2 R.2.2) 7 (fun _ => nI 0)) 4 (m 4) from (hm_uMs (hm_uM (hm_pa (hm_uM m 8 (fun _ => -1)) a2 R.2.2) 7 (fun _ => nI 0)) 4).symm]
    refine l_129 hf 20 0 (m 4) (by omega) ?_
    refine r_aload_n k_129_71 rfl ?_
    refine r_iconst k_129_72 ci_m1 ?_
    refine r_iload_n k_129_73 rfl ?_
    refine r_callv3 m_129 k_129_74 cl_8_162 m_136 (by decide) rfl rfl (Nat.le_of_ble_eq_true rfl) (Nat.le_of_ble_eq_true rfl) rfl rfl ?_
    obtain ⟨k, r, hr, hq⟩ := hQ0 e a2
    exact s_136 (m := hm_lawok m a2 R.2.2 f) hn hnc hF hr (hm_T.ret m_129 k_129_77 rfl hq)
  · refine r_istore_n k_129_25 rfl ?_
    refine r_aload_n k_129_26 rfl ?_
    refine r_iconst k_129_27 ci_0 ?_
    refine r_put m_129 k_129_28 fl_8_127 rfl (Nat.le_of_ble_eq_true rfl) rfl rfl (wM_7 _) ?_
    refine r_iload_n k_129_31 rfl ?_
    refine r_if_le k_129_32 rfl (fun z => absurd z (nI_ge (a := 0) (b := q) (by omega) (by omega))) (fun c_32 => ?_)
    refine r_bipush k_129_35 cb_m10 ?_
    refine r_iload_n k_129_37 rfl ?_
    refine r_isub k_129_38 ?_
    exact hm_T.ret m_129 k_129_39 rfl (hQ1 q hq hq6 e a2 F2)
