theorem hm_rngE2 (x : Int32) {a b : Int64} {lo hi : Int} (ha : a.toInt = lo) (hb : b.toInt = hi) : (a.toInt ≤ x.toInt64.toInt ∧ x.toInt64.toInt ≤ b.toInt) ↔ (lo ≤ x.toInt ∧ x.toInt ≤ hi) := by
  rw [Int32.toInt_toInt64, ha, hb]
theorem hm_nIof2 {x : Int32} {N : Nat} (h0 : 0 ≤ x.toInt) (h1 : x.toInt < N) : ∃ k : Nat, k < N ∧ x = nI k ∧ x.toInt = k ∧ x.toNatClampNeg = k := by
  obtain ⟨k, h2, h3, h4⟩ := hm_nIof h0 h1
  refine ⟨k, h2, h3, h4, ?_⟩
  have := Int32.toInt_lt x
  rw [h3]
  exact nI_clamp (by omega)
theorem hm_ltn {a N : Nat} (h : ¬ nI a = nI N) (hN : a ≤ N) : a < N := by
  rcases Nat.lt_or_ge a N with h1 | h1
  · exact h1
  · exact absurd (by rw [show a = N by omega]) h
theorem hm_addsub (x : Int32) : x + nI 1 - nI 1 = x := by
  rw [Int32.add_sub_cancel]
theorem hm_upd_self (f : Nat → Int32) (k : Nat) (x : Int32) : upd f k x k = x := if_pos rfl
set_option maxRecDepth 20000 in
theorem s_142 {d n s : Nat} {m : hm_M} {h : Nat → Option va_E} {Q : Option Value → hm_H → Prop} (hQ : Q (some (.int (m 8 0))) (hm_hM m h n s)) : hm_T d 142 0 [.ref 61] [] (hm_hM m h n s) Q := by
  refine r_aload_n k_142_0 rfl ?_
  refine r_get m_142 k_142_1 fl_8_28 rfl rfl ?_
  exact hm_T.ret m_142 k_142_4 rfl hQ
set_option maxRecDepth 20000 in
theorem s_133 {d n s : Nat} {m : hm_M} {h : Nat → Option va_E} {Q : Option Value → hm_H → Prop} {x y : Int32} (hQ : Q (some (.int x)) (hm_hM (hm_uM m 8 (fun _ => y)) h n s)) : hm_T d 133 0 [.ref 61, .int x, .int y] [] (hm_hM m h n s) Q := by
  refine r_aload_n k_133_0 rfl ?_
  refine r_iload_n k_133_1 rfl ?_
  refine r_put m_133 k_133_2 fl_8_28 rfl (Nat.le_of_ble_eq_true rfl) rfl rfl (wM_8 _) ?_
  refine r_iload_n k_133_5 rfl ?_
  exact hm_T.ret m_133 k_133_6 rfl hQ
def op_says (m : hm_M) (f t w : Int32) : Int32 := if (0 ≤ f.toInt ∧ f.toInt ≤ 3) then (if (0 ≤ t.toInt ∧ t.toInt ≤ 3) then (if (0 ≤ w.toInt ∧ w.toInt ≤ 4) then m 4 (20 * f.toNatClampNeg + 5 * t.toNatClampNeg + w.toNatClampNeg) else -1002) else -1002) else -1001
set_option maxRecDepth 20000 in
theorem s_143 {d n s : Nat} {m : hm_M} {h : Nat → Option va_E} {Q : Option Value → hm_H → Prop} {f t w : Int32} (hQ : Q (some (.int (op_says m f t w))) (hm_hM m h n s)) : hm_T (d + 2) 143 0 [.ref 61, .int f, .int t, .int w] [] (hm_hM m h n s) Q := by
  refine r_iload_n k_143_0 rfl ?_
  refine r_i2l k_143_1 ?_
  refine r_lconst k_143_2 cl_0 ?_
  refine r_ldc2_w m_143 k_143_3 ll_8_90 ?_
  refine r_calls3 m_143 k_143_6 cl_8_84 m_119 (by decide) rfl rfl (Nat.le_of_ble_eq_true rfl) (Nat.le_of_ble_eq_true rfl) ?_
  refine s_119 ?_
  rw [hm_ifc (hm_rngE2 f (a := 0) (b := 3) (lo := 0) (hi := 3) (by decide +kernel) (by decide +kernel))]
  refine r_if_ne k_143_9 rfl (fun c_9 => ?_) (fun c_9 => ?_)
  · have c_9 := hm_if1 c_9
    obtain ⟨fk, fkb, rfl, -, fkc⟩ := hm_nIof2 c_9.1 (N := 4) (by omega)
    refine r_iload_n k_143_16 rfl ?_
    refine r_calls1 m_143 k_143_17 cl_8_165 m_144 (by decide) rfl rfl (Nat.le_of_ble_eq_true rfl) (Nat.le_of_ble_eq_true rfl) ?_
    refine s_144 ?_
    refine r_if_eq k_143_20 rfl (fun c_20 => ?_) (fun c_20 => ?_)
    · have c_20 := hm_if0 c_20
      refine r_sipush k_143_53 cs_m1002 ?_
      exact hm_T.ret m_143 k_143_56 rfl (by first | (simp only [op_says, c_9, c_20, and_self, not_true_eq_false, not_false_eq_true, ↓reduceIte] at hQ; exact hQ) | contradiction)
    · have c_20 := hm_if1 c_20
      obtain ⟨tk, tkb, rfl, -, tkc⟩ := hm_nIof2 c_20.1 (N := 4) (by omega)
      refine r_iload_n k_143_23 rfl ?_
      refine r_i2l k_143_24 ?_
      refine r_lconst k_143_25 cl_0 ?_
      refine r_ldc2_w m_143 k_143_26 ll_8_105 ?_
      refine r_calls3 m_143 k_143_29 cl_8_84 m_119 (by decide) rfl rfl (Nat.le_of_ble_eq_true rfl) (Nat.le_of_ble_eq_true rfl) ?_
      refine s_119 ?_
      rw [hm_ifc (hm_rngE2 w (a := 0) (b := 4) (lo := 0) (hi := 4) (by decide +kernel) (by decide +kernel))]
      refine r_if_eq k_143_32 rfl (fun c_32 => ?_) (fun c_32 => ?_)
      · have c_32 := hm_if0 c_32
        refine r_sipush k_143_53 cs_m1002 ?_
        exact hm_T.ret m_143 k_143_56 rfl (by first | (simp only [op_says, c_9, c_20, c_32, and_self, not_true_eq_false, not_false_eq_true, ↓reduceIte] at hQ; exact hQ) | contradiction)
      · have c_32 := hm_if1 c_32
        obtain ⟨wk, wkb, rfl, -, wkc⟩ := hm_nIof2 c_32.1 (N := 5) (by omega)
        refine r_aload_n k_143_35 rfl ?_
        refine r_get m_143 k_143_36 fl_8_19 rfl rfl ?_
        refine r_bipush k_143_39 cb_20 ?_
        refine r_iload_n k_143_41 rfl ?_
        refine r_imul k_143_42 ?_
        refine r_iconst k_143_43 ci_5 ?_
        refine r_iload_n k_143_44 rfl ?_
        refine r_imul k_143_45 ?_
        refine r_iadd k_143_46 ?_
        refine r_iload_n k_143_47 rfl ?_
        refine r_iadd k_143_48 ?_
        refine r_ialdn (k := 20 * fk + 5 * tk + wk) k_143_49 rfl (Or.inl rfl) (by rw [nI_mul, nI_mul, nI_add, nI_add]) (by omega) (by decide) ?_
        refine r_goto k_143_50 rfl ?_
        exact hm_T.ret m_143 k_143_56 rfl (by simp only [op_says, c_9, c_20, c_32, fkc, tkc, wkc, and_self, ↓reduceIte] at hQ; exact hQ)
  · have c_9 := hm_if0 (Decidable.of_not_not c_9)
    refine r_sipush k_143_12 cs_m1001 ?_
    exact hm_T.ret m_143 k_143_15 rfl (by first | (simp only [op_says, c_9, and_self, not_true_eq_false, not_false_eq_true, ↓reduceIte] at hQ; exact hQ) | contradiction)
def op_rate (m : hm_M) (v : Int32) : Int32 × hm_M := if (0 ≤ v.toInt ∧ v.toInt ≤ 100) then (m 23 0, hm_uM m 23 (fun _ => v)) else (-1002, m)
set_option maxRecDepth 20000 in
theorem s_168 {d n s : Nat} {m : hm_M} {h : Nat → Option va_E} {Q : Option Value → hm_H → Prop} {v : Int32} (hQ : Q (some (.int (op_rate m v).1)) (hm_hM (op_rate m v).2 h n s)) : hm_T (d + 1) 168 0 [.ref 61, .int v, .retAddr 0] [] (hm_hM m h n s) Q := by
  refine r_iload_n k_168_0 rfl ?_
  refine r_i2l k_168_1 ?_
  refine r_lconst k_168_2 cl_0 ?_
  refine r_ldc2_w m_168 k_168_3 ll_8_244 ?_
  refine r_calls3 m_168 k_168_6 cl_8_84 m_119 (by decide) rfl rfl (Nat.le_of_ble_eq_true rfl) (Nat.le_of_ble_eq_true rfl) ?_
  refine s_119 ?_
  rw [hm_ifc (hm_rngE2 v (a := 0) (b := 100) (lo := 0) (hi := 100) (by decide +kernel) (by decide +kernel))]
  refine r_if_ne k_168_9 rfl (fun c_9 => ?_) (fun c_9 => ?_)
  · have c_9 := hm_if1 c_9
    refine r_aload_n k_168_16 rfl ?_
    refine r_get m_168 k_168_17 fl_8_246 rfl rfl ?_
    refine r_istore_n k_168_20 rfl ?_
    refine r_aload_n k_168_21 rfl ?_
    refine r_iload_n k_168_22 rfl ?_
    refine r_put m_168 k_168_23 fl_8_246 rfl (Nat.le_of_ble_eq_true rfl) rfl rfl (wM_23 _) ?_
    refine r_iload_n k_168_26 rfl ?_
    exact hm_T.ret m_168 k_168_27 rfl (by first | (simp only [op_rate, c_9, and_self, not_true_eq_false, not_false_eq_true, ↓reduceIte] at hQ; exact hQ) | contradiction)
  · have c_9 := hm_if0 (Decidable.of_not_not c_9)
    refine r_sipush k_168_12 cs_m1002 ?_
    exact hm_T.ret m_168 k_168_15 rfl (by first | (simp only [op_rate, c_9, and_self, not_true_eq_false, not_false_eq_true, ↓reduceIte] at hQ; exact hQ) | contradiction)
def op_bearer (m : hm_M) (v : Int32) : Int32 × hm_M := if (140 ≤ v.toInt ∧ v.toInt ≤ 210) then (if m 2 0 = nI 12 then (-1004, m) else (m 2 0, hm_uM (hm_uM m 3 (upd (m 3) (m 2 0).toNatClampNeg v)) 2 (fun _ => m 2 0 + nI 1))) else (-1002, m)
set_option maxRecDepth 20000 in
theorem s_127 {d n s : Nat} {m : hm_M} {h : Nat → Option va_E} {Q : Option Value → hm_H → Prop} {v : Int32} {nb : Nat} (hb : m 2 0 = nI nb) (hb12 : nb ≤ 12) (hQ : Q (some (.int (op_bearer m v).1)) (hm_hM (op_bearer m v).2 h n s)) : hm_T (d + 1) 127 0 [.ref 61, .int v] [] (hm_hM m h n s) Q := by
  refine r_iload_n k_127_0 rfl ?_
  refine r_i2l k_127_1 ?_
  refine r_ldc2_w m_127 k_127_2 ll_8_120 ?_
  refine r_ldc2_w m_127 k_127_5 ll_8_122 ?_
  refine r_calls3 m_127 k_127_8 cl_8_84 m_119 (by decide) rfl rfl (Nat.le_of_ble_eq_true rfl) (Nat.le_of_ble_eq_true rfl) ?_
  refine s_119 ?_
  rw [hm_ifc (hm_rngE2 v (a := 140) (b := 210) (lo := 140) (hi := 210) (by decide +kernel) (by decide +kernel))]
  refine r_if_ne k_127_11 rfl (fun c_11 => ?_) (fun c_11 => ?_)
  · have c_11 := hm_if1 c_11
    refine r_aload_n k_127_18 rfl ?_
    refine r_get m_127 k_127_19 fl_8_124 rfl rfl ?_
    refine r_bipush k_127_22 cb_12 ?_
    refine r_icmp_ne k_127_24 rfl (fun c_24 => ?_) (fun c_24 => ?_)
    · refine r_aload_n k_127_31 rfl ?_
      refine r_get m_127 k_127_32 fl_8_16 rfl rfl ?_
      refine r_aload_n k_127_35 rfl ?_
      refine r_get m_127 k_127_36 fl_8_124 rfl rfl ?_
      refine r_iload_n k_127_39 rfl ?_
      refine r_iastn (k := nb) k_127_40 rfl rfl hb (hm_ltn (hb ▸ c_24) hb12) (by decide) (wM_3 _) ?_
      refine r_aload_n k_127_41 rfl ?_
      refine r_dup k_127_42 rfl ?_
      refine r_get m_127 k_127_43 fl_8_124 rfl rfl ?_
      refine r_iconst k_127_46 ci_1 ?_
      refine r_iadd k_127_47 ?_
      refine r_put m_127 k_127_48 fl_8_124 rfl (Nat.le_of_ble_eq_true rfl) rfl rfl (wM_2 _) ?_
      refine r_aload_n k_127_51 rfl ?_
      refine r_get m_127 k_127_52 fl_8_124 rfl rfl ?_
      refine r_iconst k_127_55 ci_1 ?_
      refine r_isub k_127_56 ?_
      exact hm_T.ret m_127 k_127_57 rfl (by simp only [op_bearer, c_11, c_24, and_self, ↓reduceIte] at hQ; rw [show (m 2 0).toNatClampNeg = nb by rw [hb]; exact nI_clamp (by omega)] at hQ; show Q (some (.int (m 2 0 + nI 1 - nI 1))) (hm_hM (hm_uM (hm_uM m 3 (upd (m 3) nb v)) 2 (fun _ => m 2 0 + nI 1)) h n s); rw [hm_addsub]; exact hQ)
    · have c_24 := Decidable.of_not_not c_24
      refine r_sipush k_127_27 cs_m1004 ?_
      exact hm_T.ret m_127 k_127_30 rfl (by first | (simp only [op_bearer, c_11, c_24, and_self, not_true_eq_false, not_false_eq_true, ↓reduceIte] at hQ; exact hQ) | contradiction)
  · have c_11 := hm_if0 (Decidable.of_not_not c_11)
    refine r_sipush k_127_14 cs_m1002 ?_
    exact hm_T.ret m_127 k_127_17 rfl (by first | (simp only [op_bearer, c_11, and_self, not_true_eq_false, not_false_eq_true, ↓reduceIte] at hQ; exact hQ) | contradiction)
set_option maxRecDepth 20000 in
theorem l_164 {d n s : Nat} {m : hm_M} {h : Nat → Option va_E} {Q : Option Value → hm_H → Prop} {np : Nat} (hp : m 18 0 = nI np) (hp16 : np ≤ 16) (hQ : Q (some (.int (hm_sg (m 20) np))) (hm_hM m h n s)) : ∀ (k c : Nat), c + k = np → hm_T d 164 4 [.ref 61, .int (hm_sg (m 20) c), .int (nI c)] [] (hm_hM m h n s) Q := by
  intro k
  induction k with
  | zero =>
    intro c hc
    refine r_iload_n k_164_4 rfl ?_
    refine r_aload_n k_164_5 rfl ?_
    refine r_get m_164 k_164_6 fl_8_232 rfl rfl ?_
    rw [hp]
    refine r_icmp_ge k_164_9 rfl (fun c_9 => ?_) (fun z => absurd (nI_le (show np ≤ c by omega) (by omega)) z)
    refine r_iload_n k_164_27 rfl ?_
    exact hm_T.ret m_164 k_164_28 rfl (by rw [show np = c by omega] at hQ; exact hQ)
  | succ k ih =>
    intro c hc
    refine r_iload_n k_164_4 rfl ?_
    refine r_aload_n k_164_5 rfl ?_
    refine r_get m_164 k_164_6 fl_8_232 rfl rfl ?_
    rw [hp]
    refine r_icmp_ge k_164_9 rfl (fun z => absurd z (nI_ge (show c < np by omega) (by omega))) (fun c_9 => ?_)
    refine r_iload_n k_164_12 rfl ?_
    refine r_aload_n k_164_13 rfl ?_
    refine r_get m_164 k_164_14 fl_8_57 rfl rfl ?_
    refine r_iload_n k_164_17 rfl ?_
    refine r_ialdn (k := c) k_164_18 rfl (Or.inl rfl) rfl (by omega) (by decide) ?_
    refine r_iadd k_164_19 ?_
    refine r_istore_n k_164_20 rfl ?_
    refine r_iincn k_164_21 rfl (nI_inc c) rfl ?_
    refine r_goto k_164_24 rfl ?_
    exact ih (c + 1) (by omega)
set_option maxRecDepth 20000 in
theorem s_164 {d n s : Nat} {m : hm_M} {h : Nat → Option va_E} {Q : Option Value → hm_H → Prop} {np : Nat} (hp : m 18 0 = nI np) (hp16 : np ≤ 16) (hQ : Q (some (.int (hm_sg (m 20) np))) (hm_hM m h n s)) : hm_T d 164 0 [.ref 61, .retAddr 0, .retAddr 0] [] (hm_hM m h n s) Q := by
  refine r_iconst k_164_0 ci_0 ?_
  refine r_istore_n k_164_1 rfl ?_
  refine r_iconst k_164_2 ci_0 ?_
  refine r_istore_n k_164_3 rfl ?_
  exact l_164 hp hp16 hQ np 0 (by omega)
def op_plan (m : hm_M) (v : Int32) : Int32 × hm_M := if (0 ≤ v.toInt ∧ v.toInt ≤ 1000000) then (if m 18 0 = nI 16 then (-1004, m) else (m 18 0, hm_uM (hm_uM (hm_uM (hm_uM (hm_uM m 19 (upd (m 19) (m 18 0).toNatClampNeg v)) 20 (upd (m 20) (m 18 0).toNatClampNeg (nI 0))) 21 (upd (m 21) (m 18 0).toNatClampNeg (-1))) 22 (upd (m 22) (m 18 0).toNatClampNeg (nI 0))) 18 (fun _ => m 18 0 + nI 1))) else (-1002, m)
set_option maxRecDepth 20000 in
theorem s_165 {d n s : Nat} {m : hm_M} {h : Nat → Option va_E} {Q : Option Value → hm_H → Prop} {np : Nat} (hp : m 18 0 = nI np) (hp16 : np ≤ 16) {v : Int32} (hQ : Q (some (.int (op_plan m v).1)) (hm_hM (op_plan m v).2 h n s)) : hm_T (d + 1) 165 0 [.ref 61, .int v] [] (hm_hM m h n s) Q := by
  refine r_iload_n k_165_0 rfl ?_
  refine r_i2l k_165_1 ?_
  refine r_lconst k_165_2 cl_0 ?_
  refine r_ldc2_w m_165 k_165_3 ll_8_238 ?_
  refine r_calls3 m_165 k_165_6 cl_8_84 m_119 (by decide) rfl rfl (Nat.le_of_ble_eq_true rfl) (Nat.le_of_ble_eq_true rfl) ?_
  refine s_119 ?_
  rw [hm_ifc (hm_rngE2 v (a := 0) (b := 1000000) (lo := 0) (hi := 1000000) (by decide +kernel) (by decide +kernel))]
  refine r_if_ne k_165_9 rfl (fun c_9 => ?_) (fun c_9 => ?_)
  · have c_9 := hm_if1 c_9
    refine r_aload_n k_165_16 rfl ?_
    refine r_get m_165 k_165_17 fl_8_232 rfl rfl ?_
    refine r_bipush k_165_20 cb_16 ?_
    refine r_icmp_ne k_165_22 rfl (fun c_22 => ?_) (fun c_22 => ?_)
    · refine r_aload_n k_165_29 rfl ?_
      refine r_get m_165 k_165_30 fl_8_54 rfl rfl ?_
      refine r_aload_n k_165_33 rfl ?_
      refine r_get m_165 k_165_34 fl_8_232 rfl rfl ?_
      refine r_iload_n k_165_37 rfl ?_
      refine r_iastn (k := np) k_165_38 rfl rfl hp (hm_ltn (hp ▸ c_22) hp16) (by decide) (wM_19 _) ?_
      refine r_aload_n k_165_39 rfl ?_
      refine r_get m_165 k_165_40 fl_8_57 rfl rfl ?_
      refine r_aload_n k_165_43 rfl ?_
      refine r_get m_165 k_165_44 fl_8_232 rfl rfl ?_
      refine r_iconst k_165_47 ci_0 ?_
      refine r_iastn (k := np) k_165_48 rfl rfl hp (hm_ltn (hp ▸ c_22) hp16) (by decide) (wM_20 _) ?_
      refine r_aload_n k_165_49 rfl ?_
      refine r_get m_165 k_165_50 fl_8_60 rfl rfl ?_
      refine r_aload_n k_165_53 rfl ?_
      refine r_get m_165 k_165_54 fl_8_232 rfl rfl ?_
      refine r_iconst k_165_57 ci_m1 ?_
      refine r_iastn (k := np) k_165_58 rfl rfl hp (hm_ltn (hp ▸ c_22) hp16) (by decide) (wM_21 _) ?_
      refine r_aload_n k_165_59 rfl ?_
      refine r_get m_165 k_165_60 fl_8_63 rfl rfl ?_
      refine r_aload_n k_165_63 rfl ?_
      refine r_get m_165 k_165_64 fl_8_232 rfl rfl ?_
      refine r_iconst k_165_67 ci_0 ?_
      refine r_iastn (k := np) k_165_68 rfl rfl hp (hm_ltn (hp ▸ c_22) hp16) (by decide) (wM_22 _) ?_
      refine r_aload_n k_165_69 rfl ?_
      refine r_dup k_165_70 rfl ?_
      refine r_get m_165 k_165_71 fl_8_232 rfl rfl ?_
      refine r_iconst k_165_74 ci_1 ?_
      refine r_iadd k_165_75 ?_
      refine r_put m_165 k_165_76 fl_8_232 rfl (Nat.le_of_ble_eq_true rfl) rfl rfl (wM_18 _) ?_
      refine r_aload_n k_165_79 rfl ?_
      refine r_get m_165 k_165_80 fl_8_232 rfl rfl ?_
      refine r_iconst k_165_83 ci_1 ?_
      refine r_isub k_165_84 ?_
      exact hm_T.ret m_165 k_165_85 rfl (by simp only [op_plan, c_9, c_22, and_self, ↓reduceIte] at hQ; rw [show (m 18 0).toNatClampNeg = np by rw [hp]; exact nI_clamp (by omega)] at hQ; show Q (some (.int (m 18 0 + nI 1 - nI 1))) (hm_hM (hm_uM (hm_uM (hm_uM (hm_uM (hm_uM m 19 (upd (m 19) np v)) 20 (upd (m 20) np (nI 0))) 21 (upd (m 21) np (-1))) 22 (upd (m 22) np (nI 0))) 18 (fun _ => m 18 0 + nI 1)) h n s); rw [hm_addsub]; exact hQ)
    · have c_22 := Decidable.of_not_not c_22
      refine r_sipush k_165_25 cs_m1004 ?_
      exact hm_T.ret m_165 k_165_28 rfl (by first | (simp only [op_plan, c_9, c_22, and_self, not_true_eq_false, not_false_eq_true, ↓reduceIte] at hQ; exact hQ) | contradiction)
  · have c_9 := hm_if0 (Decidable.of_not_not c_9)
    refine r_sipush k_165_12 cs_m1002 ?_
    exact hm_T.ret m_165 k_165_15 rfl (by first | (simp only [op_plan, c_9, and_self, not_true_eq_false, not_false_eq_true, ↓reduceIte] at hQ; exact hQ) | contradiction)
def op_planned (m : hm_M) (pl w : Int32) : Int32 := if (0 ≤ pl.toInt ∧ pl.toInt < (m 18 0).toNatClampNeg) then (if w.toInt = 0 then m 19 pl.toNatClampNeg else if w.toInt = 1 then m 20 pl.toNatClampNeg else if w.toInt = 2 then m 21 pl.toNatClampNeg else if w.toInt = 3 then m 22 pl.toNatClampNeg else -1002) else -1001
set_option maxRecDepth 20000 in
theorem s_173 {d n s : Nat} {m : hm_M} {h : Nat → Option va_E} {Q : Option Value → hm_H → Prop} {np : Nat} (hp : m 18 0 = nI np) (hp16 : np ≤ 16) {pl w : Int32} (hQ : Q (some (.int (op_planned m pl w))) (hm_hM m h n s)) : hm_T (d + 2) 173 0 [.ref 61, .int pl, .int w] [] (hm_hM m h n s) Q := by
  refine r_aload_n k_173_0 rfl ?_
  refine r_iload_n k_173_1 rfl ?_
  refine r_callv2 m_173 k_173_2 cl_8_240 m_167 (by decide) rfl rfl (Nat.le_of_ble_eq_true rfl) (Nat.le_of_ble_eq_true rfl) rfl rfl ?_
  refine s_167 hp hp16 ?_
  refine r_if_ne k_173_5 rfl (fun c_5 => ?_) (fun c_5 => ?_)
  · have c_5 := hm_if1 c_5
    obtain ⟨pk, pkb, rfl, -, pkc⟩ := hm_nIof2 c_5.1 (N := np) (by omega)
    refine r_iload_n k_173_12 rfl ?_
    by_cases c_13 : w.toInt < 0 ∨ 3 < w.toInt
    · refine r_tableOut k_173_13 c_13 rfl ?_
      refine r_sipush k_173_72 cs_m1002 ?_
      exact hm_T.ret m_173 k_173_75 rfl (by unfold op_planned at hQ; rw [hp, nI_clamp (show np < 2 ^ 31 by omega)] at hQ; rw [if_pos c_5, if_neg (by omega), if_neg (by omega), if_neg (by omega), if_neg (by omega)] at hQ; exact hQ)
    · have hs_13 : w.toInt = 0 ∨ w.toInt = 1 ∨ w.toInt = 2 ∨ w.toInt = 3 := by omega
      rcases hs_13 with hs_13 | hs_13 | hs_13 | hs_13
      · refine r_tableIn k_173_13 c_13 (by rw [hs_13]; rfl) rfl ?_
        refine r_aload_n k_173_44 rfl ?_
        refine r_get m_173 k_173_45 fl_8_54 rfl rfl ?_
        refine r_iload_n k_173_48 rfl ?_
        refine r_ialdn (k := pk) k_173_49 rfl (Or.inl rfl) rfl (by omega) (by decide) ?_
        exact hm_T.ret m_173 k_173_50 rfl (by unfold op_planned at hQ; rw [hp, nI_clamp (show np < 2 ^ 31 by omega)] at hQ; rw [if_pos c_5, if_pos hs_13, pkc] at hQ; exact hQ)
      · refine r_tableIn k_173_13 c_13 (by rw [hs_13]; rfl) rfl ?_
        refine r_aload_n k_173_51 rfl ?_
        refine r_get m_173 k_173_52 fl_8_57 rfl rfl ?_
        refine r_iload_n k_173_55 rfl ?_
        refine r_ialdn (k := pk) k_173_56 rfl (Or.inl rfl) rfl (by omega) (by decide) ?_
        exact hm_T.ret m_173 k_173_57 rfl (by unfold op_planned at hQ; rw [hp, nI_clamp (show np < 2 ^ 31 by omega)] at hQ; rw [if_pos c_5, if_neg (by omega), if_pos hs_13, pkc] at hQ; exact hQ)
      · refine r_tableIn k_173_13 c_13 (by rw [hs_13]; rfl) rfl ?_
        refine r_aload_n k_173_58 rfl ?_
        refine r_get m_173 k_173_59 fl_8_60 rfl rfl ?_
        refine r_iload_n k_173_62 rfl ?_
        refine r_ialdn (k := pk) k_173_63 rfl (Or.inl rfl) rfl (by omega) (by decide) ?_
        exact hm_T.ret m_173 k_173_64 rfl (by unfold op_planned at hQ; rw [hp, nI_clamp (show np < 2 ^ 31 by omega)] at hQ; rw [if_pos c_5, if_neg (by omega), if_neg (by omega), if_pos hs_13, pkc] at hQ; exact hQ)
      · refine r_tableIn k_173_13 c_13 (by rw [hs_13]; rfl) rfl ?_
        refine r_aload_n k_173_65 rfl ?_
        refine r_get m_173 k_173_66 fl_8_63 rfl rfl ?_
        refine r_iload_n k_173_69 rfl ?_
        refine r_ialdn (k := pk) k_173_70 rfl (Or.inl rfl) rfl (by omega) (by decide) ?_
        exact hm_T.ret m_173 k_173_71 rfl (by unfold op_planned at hQ; rw [hp, nI_clamp (show np < 2 ^ 31 by omega)] at hQ; rw [if_pos c_5, if_neg (by omega), if_neg (by omega), if_neg (by omega), if_pos hs_13, pkc] at hQ; exact hQ)
  · have c_5 := hm_if0 (Decidable.of_not_not c_5)
    refine r_sipush k_173_8 cs_m1001 ?_
    exact hm_T.ret m_173 k_173_11 rfl (by unfold op_planned at hQ; rw [hp, nI_clamp (show np < 2 ^ 31 by omega)] at hQ; rw [if_neg c_5] at hQ; exact hQ)
def op_pay (m : hm_M) (pl v : Int32) : Int32 × hm_M := if (0 ≤ pl.toInt ∧ pl.toInt < (m 18 0).toNatClampNeg) then (if (1 ≤ v.toInt ∧ v.toInt ≤ 1000000) then (if m 20 pl.toNatClampNeg + v ≤ 100000000 then (m 20 pl.toNatClampNeg + v, hm_uM m 20 (upd (m 20) pl.toNatClampNeg (m 20 pl.toNatClampNeg + v))) else (-1003, m)) else (-1002, m)) else (-1001, m)
set_option maxRecDepth 20000 in
theorem s_166 {d n s : Nat} {m : hm_M} {h : Nat → Option va_E} {Q : Option Value → hm_H → Prop} {np : Nat} (hp : m 18 0 = nI np) (hp16 : np ≤ 16) {pl v : Int32} (hQ : Q (some (.int (op_pay m pl v).1)) (hm_hM (op_pay m pl v).2 h n s)) : hm_T (d + 2) 166 0 [.ref 61, .int pl, .int v] [] (hm_hM m h n s) Q := by
  refine r_aload_n k_166_0 rfl ?_
  refine r_iload_n k_166_1 rfl ?_
  refine r_callv2 m_166 k_166_2 cl_8_240 m_167 (by decide) rfl rfl (Nat.le_of_ble_eq_true rfl) (Nat.le_of_ble_eq_true rfl) rfl rfl ?_
  refine s_167 hp hp16 ?_
  refine r_if_ne k_166_5 rfl (fun c_5 => ?_) (fun c_5 => ?_)
  · have c_5 := hm_if1 c_5
    obtain ⟨pk, pkb, rfl, -, pkc⟩ := hm_nIof2 c_5.1 (N := np) (by omega)
    refine r_iload_n k_166_12 rfl ?_
    refine r_i2l k_166_13 ?_
    refine r_lconst k_166_14 cl_1 ?_
    refine r_ldc2_w m_166 k_166_15 ll_8_238 ?_
    refine r_calls3 m_166 k_166_18 cl_8_84 m_119 (by decide) rfl rfl (Nat.le_of_ble_eq_true rfl) (Nat.le_of_ble_eq_true rfl) ?_
    refine s_119 ?_
    rw [hm_ifc (hm_rngE2 v (a := 1) (b := 1000000) (lo := 1) (hi := 1000000) (by decide +kernel) (by decide +kernel))]
    refine r_if_ne k_166_21 rfl (fun c_21 => ?_) (fun c_21 => ?_)
    · have c_21 := hm_if1 c_21
      refine r_aload_n k_166_28 rfl ?_
      refine r_get m_166 k_166_29 fl_8_57 rfl rfl ?_
      refine r_iload_n k_166_32 rfl ?_
      refine r_ialdn (k := pk) k_166_33 rfl (Or.inl rfl) rfl (by omega) (by decide) ?_
      refine r_iload_n k_166_34 rfl ?_
      refine r_iadd k_166_35 ?_
      refine r_ldc m_166 k_166_36 il_8_243 ?_
      refine r_icmp_le k_166_38 rfl (fun c_38 => ?_) (fun c_38 => ?_)
      · refine r_aload_n k_166_45 rfl ?_
        refine r_get m_166 k_166_46 fl_8_57 rfl rfl ?_
        refine r_iload_n k_166_49 rfl ?_
        refine r_dup2 k_166_50 rfl rfl ?_
        refine r_ialdn (k := pk) k_166_51 rfl (Or.inl rfl) rfl (by omega) (by decide) ?_
        refine r_iload_n k_166_52 rfl ?_
        refine r_iadd k_166_53 ?_
        refine r_iastn (k := pk) k_166_54 rfl rfl rfl (by omega) (by decide) (wM_20 _) ?_
        refine r_aload_n k_166_55 rfl ?_
        refine r_get m_166 k_166_56 fl_8_57 rfl rfl ?_
        refine r_iload_n k_166_59 rfl ?_
        refine r_ialdn (k := pk) k_166_60 rfl (Or.inl rfl) rfl (by omega) (by decide) ?_
        exact hm_T.ret m_166 k_166_61 rfl (by unfold op_pay at hQ; rw [hp, nI_clamp (show np < 2 ^ 31 by omega)] at hQ; rw [if_pos c_5, if_pos c_21, pkc, if_pos c_38] at hQ; rw [show (hm_uM m 20 (upd (m 20) pk (m 20 pk + v))) 20 pk = m 20 pk + v from hm_upd_self _ _ _]; exact hQ)
      · refine r_sipush k_166_41 cs_m1003 ?_
        exact hm_T.ret m_166 k_166_44 rfl (by unfold op_pay at hQ; rw [hp, nI_clamp (show np < 2 ^ 31 by omega)] at hQ; rw [if_pos c_5, if_pos c_21, pkc, if_neg c_38] at hQ; exact hQ)
    · have c_21 := hm_if0 (Decidable.of_not_not c_21)
      refine r_sipush k_166_24 cs_m1002 ?_
      exact hm_T.ret m_166 k_166_27 rfl (by unfold op_pay at hQ; rw [hp, nI_clamp (show np < 2 ^ 31 by omega)] at hQ; rw [if_pos c_5, if_neg c_21] at hQ; exact hQ)
  · have c_5 := hm_if0 (Decidable.of_not_not c_5)
    refine r_sipush k_166_8 cs_m1001 ?_
    exact hm_T.ret m_166 k_166_11 rfl (by unfold op_pay at hQ; rw [hp, nI_clamp (show np < 2 ^ 31 by omega)] at hQ; rw [if_neg c_5] at hQ; exact hQ)
def hm_so (c : Int32) : Int32 := if ¬ c = nI 102 then (if ¬ c = nI 115 then (if ¬ c = nI 98 then (if ¬ c = nI 103 then -1 else nI 3) else nI 2) else nI 1) else nI 0
set_option maxRecDepth 20000 in
theorem s_132 {d : Nat} {hp : hm_H} {Q : Option Value → hm_H → Prop} {c : Int32} (hQ : Q (some (.int (hm_so c))) hp) : hm_T d 132 0 [.int c] [] hp Q := by
  refine r_iload_n k_132_0 rfl ?_
  refine r_bipush k_132_1 cb_102 ?_
  refine r_icmp_ne k_132_3 rfl (fun c_3 => ?_) (fun c_3 => ?_)
  · refine r_iload_n k_132_10 rfl ?_
    refine r_bipush k_132_11 cb_115 ?_
    refine r_icmp_ne k_132_13 rfl (fun c_13 => ?_) (fun c_13 => ?_)
    · refine r_iload_n k_132_20 rfl ?_
      refine r_bipush k_132_21 cb_98 ?_
      refine r_icmp_ne k_132_23 rfl (fun c_23 => ?_) (fun c_23 => ?_)
      · refine r_iload_n k_132_30 rfl ?_
        refine r_bipush k_132_31 cb_103 ?_
        refine r_icmp_ne k_132_33 rfl (fun c_33 => ?_) (fun c_33 => ?_)
        · refine r_iconst k_132_40 ci_m1 ?_
          exact hm_T.ret m_132 k_132_41 rfl (by first | (simp only [hm_so, c_3, c_13, c_23, c_33, and_self, not_true_eq_false, not_false_eq_true, ↓reduceIte] at hQ; exact hQ) | contradiction)
        · have c_33 := Decidable.of_not_not c_33
          refine r_iconst k_132_36 ci_3 ?_
          refine r_goto k_132_37 rfl ?_
          exact hm_T.ret m_132 k_132_41 rfl (by first | (simp only [hm_so, c_3, c_13, c_23, c_33, and_self, not_true_eq_false, not_false_eq_true, ↓reduceIte] at hQ; exact hQ) | contradiction)
      · have c_23 := Decidable.of_not_not c_23
        refine r_iconst k_132_26 ci_2 ?_
        refine r_goto k_132_27 rfl ?_
        exact hm_T.ret m_132 k_132_41 rfl (by first | (simp only [hm_so, c_3, c_13, c_23, and_self, not_true_eq_false, not_false_eq_true, ↓reduceIte] at hQ; exact hQ) | contradiction)
    · have c_13 := Decidable.of_not_not c_13
      refine r_iconst k_132_16 ci_1 ?_
      refine r_goto k_132_17 rfl ?_
      exact hm_T.ret m_132 k_132_41 rfl (by first | (simp only [hm_so, c_3, c_13, and_self, not_true_eq_false, not_false_eq_true, ↓reduceIte] at hQ; exact hQ) | contradiction)
  · have c_3 := Decidable.of_not_not c_3
    refine r_iconst k_132_6 ci_0 ?_
    refine r_goto k_132_7 rfl ?_
    exact hm_T.ret m_132 k_132_41 rfl (by first | (simp only [hm_so, c_3, and_self, not_true_eq_false, not_false_eq_true, ↓reduceIte] at hQ; exact hQ) | contradiction)
def hm_out (b x y : Int32) : Int32 := if x < 0 then (if y ≤ b then nI 0 else nI 1) else (if x < b then nI 1 else (if y ≤ b then nI 0 else nI 1))
set_option maxRecDepth 20000 in
theorem s_140 {d n s : Nat} {m : hm_M} {h : Nat → Option va_E} {Q : Option Value → hm_H → Prop} {c t : Nat} {hour : Int32} (hc : c < 16) (ht : t < 4) {f : Nat} (hf : m 10 c = nI f) (hf4 : f < 4) (hQ : Q (some (.int (hm_out (hour - m 11 c) (m 4 (20 * f + 5 * t + 1)) (m 4 (20 * f + 5 * t + 2))))) (hm_hM m h n s)) : hm_T (d + 1) 140 0 [.ref 61, .int (nI c), .int (nI t), .int hour, .retAddr 0] [] (hm_hM m h n s) Q := by
  refine r_iload_n k_140_0 rfl ?_
  refine r_aload_n k_140_1 rfl ?_
  refine r_get m_140 k_140_2 fl_8_35 rfl rfl ?_
  refine r_iload_n k_140_5 rfl ?_
  refine r_ialdn (k := c) k_140_6 rfl (Or.inl rfl) rfl (by omega) (by decide) ?_
  refine r_isub k_140_7 ?_
  refine r_istore k_140_8 rfl ?_
  refine r_aload_n k_140_10 rfl ?_
  refine r_iload_n k_140_11 rfl ?_
  refine r_iload_n k_140_12 rfl ?_
  refine r_iconst k_140_13 ci_1 ?_
  refine r_callv4 m_140 k_140_14 cl_8_169 m_138 (by decide) rfl rfl (Nat.le_of_ble_eq_true rfl) (Nat.le_of_ble_eq_true rfl) rfl rfl ?_
  refine s_138 (c := c) (t := t) (w := 1) hc ht (by decide) hf hf4 ?_
  refine r_if_lt k_140_17 rfl (fun c_17 => ?_) (fun c_17 => ?_)
  · refine r_iload k_140_32 rfl ?_
    refine r_aload_n k_140_34 rfl ?_
    refine r_iload_n k_140_35 rfl ?_
    refine r_iload_n k_140_36 rfl ?_
    refine r_iconst k_140_37 ci_2 ?_
    refine r_callv4 m_140 k_140_38 cl_8_169 m_138 (by decide) rfl rfl (Nat.le_of_ble_eq_true rfl) (Nat.le_of_ble_eq_true rfl) rfl rfl ?_
    refine s_138 (c := c) (t := t) (w := 2) hc ht (by decide) hf hf4 ?_
    refine r_icmp_ge k_140_41 rfl (fun c_41 => ?_) (fun c_41 => ?_)
    · refine r_iconst k_140_48 ci_0 ?_
      exact hm_T.ret m_140 k_140_49 rfl (by first | (simp only [hm_out, c_17, c_41, and_self, not_true_eq_false, not_false_eq_true, ↓reduceIte] at hQ; exact hQ) | contradiction)
    · refine r_iconst k_140_44 ci_1 ?_
      refine r_goto k_140_45 rfl ?_
      exact hm_T.ret m_140 k_140_49 rfl (by first | (simp only [hm_out, c_17, c_41, and_self, not_true_eq_false, not_false_eq_true, ↓reduceIte] at hQ; exact hQ) | contradiction)
  · refine r_iload k_140_20 rfl ?_
    refine r_aload_n k_140_22 rfl ?_
    refine r_iload_n k_140_23 rfl ?_
    refine r_iload_n k_140_24 rfl ?_
    refine r_iconst k_140_25 ci_1 ?_
    refine r_callv4 m_140 k_140_26 cl_8_169 m_138 (by decide) rfl rfl (Nat.le_of_ble_eq_true rfl) (Nat.le_of_ble_eq_true rfl) rfl rfl ?_
    refine s_138 (c := c) (t := t) (w := 1) hc ht (by decide) hf hf4 ?_
    refine r_icmp_gt k_140_29 rfl (fun c_29 => ?_) (fun c_29 => ?_)
    · refine r_iconst k_140_44 ci_1 ?_
      refine r_goto k_140_45 rfl ?_
      exact hm_T.ret m_140 k_140_49 rfl (by first | (simp only [hm_out, c_17, c_29, and_self, not_true_eq_false, not_false_eq_true, ↓reduceIte] at hQ; exact hQ) | contradiction)
    · refine r_iload k_140_32 rfl ?_
      refine r_aload_n k_140_34 rfl ?_
      refine r_iload_n k_140_35 rfl ?_
      refine r_iload_n k_140_36 rfl ?_
      refine r_iconst k_140_37 ci_2 ?_
      refine r_callv4 m_140 k_140_38 cl_8_169 m_138 (by decide) rfl rfl (Nat.le_of_ble_eq_true rfl) (Nat.le_of_ble_eq_true rfl) rfl rfl ?_
      refine s_138 (c := c) (t := t) (w := 2) hc ht (by decide) hf hf4 ?_
      refine r_icmp_ge k_140_41 rfl (fun c_41 => ?_) (fun c_41 => ?_)
      · refine r_iconst k_140_48 ci_0 ?_
        exact hm_T.ret m_140 k_140_49 rfl (by first | (simp only [hm_out, c_17, c_29, c_41, and_self, not_true_eq_false, not_false_eq_true, ↓reduceIte] at hQ; exact hQ) | contradiction)
      · refine r_iconst k_140_44 ci_1 ?_
        refine r_goto k_140_45 rfl ?_
        exact hm_T.ret m_140 k_140_49 rfl (by first | (simp only [hm_out, c_17, c_29, c_41, and_self, not_true_eq_false, not_false_eq_true, ↓reduceIte] at hQ; exact hQ) | contradiction)
/-- the last plan below n that is tied to c -/
def hm_po (t : Nat → Int32) (c : Int32) : Nat → Int32
  | 0 => -1
  | n + 1 => if ¬ t n = c then hm_po t c n else nI n
set_option maxRecDepth 20000 in
theorem l_171 {d n s : Nat} {m : hm_M} {h : Nat → Option va_E} {Q : Option Value → hm_H → Prop} {np : Nat} (hp : m 18 0 = nI np) (hp16 : np ≤ 16) {x : Int32} (hQ : Q (some (.int (hm_po (m 21) x np))) (hm_hM m h n s)) : ∀ (k c : Nat), c + k = np → hm_T d 171 4 [.ref 61, .int x, .int (hm_po (m 21) x c), .int (nI c)] [] (hm_hM m h n s) Q := by
  intro k
  induction k with
  | zero =>
    intro c hc
    refine r_iload_n k_171_4 rfl ?_
    refine r_aload_n k_171_5 rfl ?_
    refine r_get m_171 k_171_6 fl_8_232 rfl rfl ?_
    rw [hp]
    refine r_icmp_ge k_171_9 rfl (fun c_9 => ?_) (fun z => absurd (nI_le (show np ≤ c by omega) (by omega)) z)
    refine r_iload_n k_171_34 rfl ?_
    exact hm_T.ret m_171 k_171_35 rfl (by rw [show np = c by omega] at hQ; exact hQ)
  | succ k ih =>
    intro c hc
    refine r_iload_n k_171_4 rfl ?_
    refine r_aload_n k_171_5 rfl ?_
    refine r_get m_171 k_171_6 fl_8_232 rfl rfl ?_
    rw [hp]
    refine r_icmp_ge k_171_9 rfl (fun z => absurd z (nI_ge (show c < np by omega) (by omega))) (fun c_9 => ?_)
    refine r_aload_n k_171_12 rfl ?_
    refine r_get m_171 k_171_13 fl_8_60 rfl rfl ?_
    refine r_iload_n k_171_16 rfl ?_
    refine r_ialdn (k := c) k_171_17 rfl (Or.inl rfl) rfl (by omega) (by decide) ?_
    refine r_iload_n k_171_18 rfl ?_
    refine r_icmp_ne k_171_19 rfl (fun c_19 => ?_) (fun c_19 => ?_)
    · refine r_iload_n k_171_26 rfl ?_
      refine r_istore_n k_171_27 rfl ?_
      refine r_iincn k_171_28 rfl (nI_inc c) rfl ?_
      refine r_goto k_171_31 rfl ?_
      have e := ih (c + 1) (by omega)
      rw [show hm_po (m 21) x (c + 1) = hm_po (m 21) x c from if_pos c_19] at e
      exact e
    · have c_19 := Decidable.of_not_not c_19
      refine r_iload_n k_171_22 rfl ?_
      refine r_goto k_171_23 rfl ?_
      refine r_istore_n k_171_27 rfl ?_
      refine r_iincn k_171_28 rfl (nI_inc c) rfl ?_
      refine r_goto k_171_31 rfl ?_
      have e := ih (c + 1) (by omega)
      rw [show hm_po (m 21) x (c + 1) = nI c from if_neg (fun z => z c_19)] at e
      exact e
set_option maxRecDepth 20000 in
theorem s_171 {d n s : Nat} {m : hm_M} {h : Nat → Option va_E} {Q : Option Value → hm_H → Prop} {np : Nat} (hp : m 18 0 = nI np) (hp16 : np ≤ 16) {x : Int32} (hQ : Q (some (.int (hm_po (m 21) x np))) (hm_hM m h n s)) : hm_T d 171 0 [.ref 61, .int x, .retAddr 0, .retAddr 0] [] (hm_hM m h n s) Q := by
  refine r_iconst k_171_0 ci_m1 ?_
  refine r_istore_n k_171_1 rfl ?_
  refine r_iconst k_171_2 ci_0 ?_
  refine r_istore_n k_171_3 rfl ?_
  exact l_171 hp hp16 hQ np 0 (by omega)
