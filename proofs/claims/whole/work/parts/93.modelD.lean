def hm_any (P : Nat → Bool) : Nat → Bool
  | 0 => false
  | n + 1 => hm_any P n || P n
def hm_bi (b : Bool) : Int32 := match b with
  | true => nI 1
  | false => nI 0
theorem hm_biT {b : Bool} (h : b = true) : hm_bi b = nI 1 := by rw [h]; rfl
theorem hm_biF {b : Bool} (h : b = false) : hm_bi b = nI 0 := by rw [h]; rfl
theorem hm_bi01 {b : Bool} : hm_bi b = 0 ∨ hm_bi b = 1 := by
  cases b
  · exact Or.inl rfl
  · exact Or.inr rfl
theorem hm_bi0 {b : Bool} (h : hm_bi b = 0) : b = false := by
  cases b
  · rfl
  · exact absurd h (by decide +kernel)
theorem hm_bi1 {b : Bool} (h : ¬ hm_bi b = 0) : b = true := by
  cases b
  · exact absurd (by decide +kernel) h
  · rfl
theorem hm_any_l {P : Nat → Bool} {c : Nat} (h : hm_any P c = true) : hm_any P (c + 1) = true := by
  show (hm_any P c || P c) = true
  rw [h]
  rfl
theorem hm_any_r {P : Nat → Bool} {c : Nat} (h : P c = true) : hm_any P (c + 1) = true := by
  show (hm_any P c || P c) = true
  rw [h, Bool.or_true]
theorem hm_any_n {P : Nat → Bool} {c : Nat} (h1 : hm_any P c = false) (h2 : P c = false) : hm_any P (c + 1) = false := by
  show (hm_any P c || P c) = false
  rw [h1, h2]
  rfl
theorem hm_any_lt {P : Nat → Bool} {c N : Nat} (h : P c = true) (hN : c < N) : hm_any P N = true := by
  induction N with
  | zero => omega
  | succ N ih =>
    rcases Nat.lt_or_ge c N with h1 | h1
    · exact hm_any_l (ih h1)
    · rw [show N = c by omega]
      exact hm_any_r h
set_option maxRecDepth 20000 in
theorem l_152 {d n s : Nat} {m : hm_M} {h : Nat → Option va_E} {Q : Option Value → hm_H → Prop} {c : Nat} {hour : Int32} (hc : c < 16) (hQ : Q (some (.int (hm_bi (hm_any (fun j => decide (m 15 (4 * c + j) = hour)) 4)))) (hm_hM m h n s)) : ∀ (k j : Nat), j + k = 4 → hm_T (d + 1) 152 5 [.ref 61, .int (nI c), .int hour, .int (hm_bi (hm_any (fun j => decide (m 15 (4 * c + j) = hour)) j)), .int (nI j)] [] (hm_hM m h n s) Q := by
  intro k
  induction k with
  | zero =>
    intro j hj
    refine r_iload k_152_5 rfl ?_
    refine r_iconst k_152_7 ci_4 ?_
    refine r_icmp_ge k_152_8 rfl (fun c_8 => ?_) (fun z => absurd (nI_le (show 4 ≤ j by omega) (by omega)) z)
    refine r_iload_n k_152_38 rfl ?_
    exact r_retz m_152 k_152_39 rfl hm_bi01 (by rw [show j = 4 by omega]; exact hQ)
  | succ k ih =>
    intro j hj
    refine r_iload k_152_5 rfl ?_
    refine r_iconst k_152_7 ci_4 ?_
    refine r_icmp_ge k_152_8 rfl (fun z => absurd z (nI_ge (show j < 4 by omega) (by omega))) (fun c_8 => ?_)
    refine r_iload_n k_152_11 rfl ?_
    refine r_if_ne k_152_12 rfl (fun c_12 => ?_) (fun c_12 => ?_)
    · refine r_iconst k_152_26 ci_1 ?_
      refine r_goto k_152_27 rfl ?_
      refine r_istore_n k_152_31 rfl ?_
      refine r_iincn k_152_32 rfl (nI_inc j) rfl ?_
      refine r_goto k_152_35 rfl ?_
      have e := ih (j + 1) (by omega)
      rw [hm_biT (hm_any_l (hm_bi1 c_12))] at e
      exact e
    · have c_12 := Decidable.of_not_not c_12
      refine r_aload_n k_152_15 rfl ?_
      refine r_iload_n k_152_16 rfl ?_
      refine r_iload k_152_17 rfl ?_
      refine r_callv3 m_152 k_152_19 cl_8_92 m_122 (by decide) rfl rfl (Nat.le_of_ble_eq_true rfl) (Nat.le_of_ble_eq_true rfl) rfl rfl ?_
      refine s_122 (c := c) (t := j) hc (by omega) ?_
      refine r_iload_n k_152_22 rfl ?_
      refine r_icmp_ne k_152_23 rfl (fun c_23 => ?_) (fun c_23 => ?_)
      · refine r_iconst k_152_30 ci_0 ?_
        refine r_istore_n k_152_31 rfl ?_
        refine r_iincn k_152_32 rfl (nI_inc j) rfl ?_
        refine r_goto k_152_35 rfl ?_
        have e := ih (j + 1) (by omega)
        rw [hm_biF (hm_any_n (P := (fun j => decide (m 15 (4 * c + j) = hour))) (hm_bi0 c_12) (decide_eq_false c_23))] at e
        exact e
      · have c_23 := Decidable.of_not_not c_23
        refine r_iconst k_152_26 ci_1 ?_
        refine r_goto k_152_27 rfl ?_
        refine r_istore_n k_152_31 rfl ?_
        refine r_iincn k_152_32 rfl (nI_inc j) rfl ?_
        refine r_goto k_152_35 rfl ?_
        have e := ih (j + 1) (by omega)
        rw [hm_biT (hm_any_r (P := (fun j => decide (m 15 (4 * c + j) = hour))) (decide_eq_true c_23))] at e
        exact e
set_option maxRecDepth 20000 in
theorem s_152 {d n s : Nat} {m : hm_M} {h : Nat → Option va_E} {Q : Option Value → hm_H → Prop} {c : Nat} {hour : Int32} (hc : c < 16) (hQ : Q (some (.int (hm_bi (hm_any (fun j => decide (m 15 (4 * c + j) = hour)) 4)))) (hm_hM m h n s)) : hm_T (d + 1) 152 0 [.ref 61, .int (nI c), .int hour, .retAddr 0, .retAddr 0] [] (hm_hM m h n s) Q := by
  refine r_iconst k_152_0 ci_0 ?_
  refine r_istore_n k_152_1 rfl ?_
  refine r_iconst k_152_2 ci_0 ?_
  refine r_istore k_152_3 rfl ?_
  exact l_152 hc hQ 4 0 (by omega)
set_option maxRecDepth 20000 in
theorem l_151 {d n s : Nat} {m : hm_M} {h : Nat → Option va_E} {Q : Option Value → hm_H → Prop} {c t : Nat} {hour : Int32} (hc : c < 16) (ht : t < 4) {f : Nat} (hf : m 10 c = nI f) (hf4 : f < 4) (hQ : Q (some (.int (hm_bi (hm_any (fun j => decide (¬ m 15 (4 * c + j) < 0) && (decide (¬ hour < m 15 (4 * c + j)) && decide (m 4 (20 * f + 5 * j + 4) >>> (nI t &&& 31) &&& nI 1 = nI 1))) 4)))) (hm_hM m h n s)) : ∀ (k j : Nat), j + k = 4 → hm_T (d + 1) 151 6 [.ref 61, .int (nI c), .int (nI t), .int hour, .int (hm_bi (hm_any (fun j => decide (¬ m 15 (4 * c + j) < 0) && (decide (¬ hour < m 15 (4 * c + j)) && decide (m 4 (20 * f + 5 * j + 4) >>> (nI t &&& 31) &&& nI 1 = nI 1))) j)), .int (nI j)] [] (hm_hM m h n s) Q := by
  intro k
  induction k with
  | zero =>
    intro j hj
    refine r_iload k_151_6 rfl ?_
    refine r_iconst k_151_8 ci_4 ?_
    refine r_icmp_ge k_151_9 rfl (fun c_9 => ?_) (fun z => absurd (nI_le (show 4 ≤ j by omega) (by omega)) z)
    refine r_iload k_151_67 rfl ?_
    exact r_retz m_151 k_151_69 rfl hm_bi01 (by rw [show j = 4 by omega]; exact hQ)
  | succ k ih =>
    intro j hj
    refine r_iload k_151_6 rfl ?_
    refine r_iconst k_151_8 ci_4 ?_
    refine r_icmp_ge k_151_9 rfl (fun z => absurd z (nI_ge (show j < 4 by omega) (by omega))) (fun c_9 => ?_)
    refine r_iload k_151_12 rfl ?_
    refine r_if_ne k_151_14 rfl (fun c_14 => ?_) (fun c_14 => ?_)
    · refine r_iconst k_151_54 ci_1 ?_
      refine r_goto k_151_55 rfl ?_
      refine r_istore k_151_59 rfl ?_
      refine r_iincn k_151_61 rfl (nI_inc j) rfl ?_
      refine r_goto k_151_64 rfl ?_
      have e := ih (j + 1) (by omega)
      rw [hm_biT (hm_any_l (hm_bi1 c_14))] at e
      exact e
    · have c_14 := Decidable.of_not_not c_14
      refine r_aload_n k_151_17 rfl ?_
      refine r_iload_n k_151_18 rfl ?_
      refine r_iload k_151_19 rfl ?_
      refine r_callv3 m_151 k_151_21 cl_8_92 m_122 (by decide) rfl rfl (Nat.le_of_ble_eq_true rfl) (Nat.le_of_ble_eq_true rfl) rfl rfl ?_
      refine s_122 (c := c) (t := j) hc (by omega) ?_
      refine r_if_lt k_151_24 rfl (fun c_24 => ?_) (fun c_24 => ?_)
      · refine r_iconst k_151_58 ci_0 ?_
        refine r_istore k_151_59 rfl ?_
        refine r_iincn k_151_61 rfl (nI_inc j) rfl ?_
        refine r_goto k_151_64 rfl ?_
        have e := ih (j + 1) (by omega)
        rw [hm_biF (hm_any_n (P := (fun j => decide (¬ m 15 (4 * c + j) < 0) && (decide (¬ hour < m 15 (4 * c + j)) && decide (m 4 (20 * f + 5 * j + 4) >>> (nI t &&& 31) &&& nI 1 = nI 1)))) (hm_bi0 c_14) (by rw [decide_eq_false (fun z => z c_24)]; rfl))] at e
        exact e
      · refine r_aload_n k_151_27 rfl ?_
        refine r_iload_n k_151_28 rfl ?_
        refine r_iload k_151_29 rfl ?_
        refine r_callv3 m_151 k_151_31 cl_8_92 m_122 (by decide) rfl rfl (Nat.le_of_ble_eq_true rfl) (Nat.le_of_ble_eq_true rfl) rfl rfl ?_
        refine s_122 (c := c) (t := j) hc (by omega) ?_
        refine r_iload_n k_151_34 rfl ?_
        refine r_icmp_gt k_151_35 rfl (fun c_35 => ?_) (fun c_35 => ?_)
        · refine r_iconst k_151_58 ci_0 ?_
          refine r_istore k_151_59 rfl ?_
          refine r_iincn k_151_61 rfl (nI_inc j) rfl ?_
          refine r_goto k_151_64 rfl ?_
          have e := ih (j + 1) (by omega)
          rw [hm_biF (hm_any_n (P := (fun j => decide (¬ m 15 (4 * c + j) < 0) && (decide (¬ hour < m 15 (4 * c + j)) && decide (m 4 (20 * f + 5 * j + 4) >>> (nI t &&& 31) &&& nI 1 = nI 1)))) (hm_bi0 c_14) (by rw [show decide (¬ hour < m 15 (4 * c + j)) = false from decide_eq_false (fun z => z c_35)]; exact Bool.and_false _))] at e
          exact e
        · refine r_aload_n k_151_38 rfl ?_
          refine r_iload_n k_151_39 rfl ?_
          refine r_iload k_151_40 rfl ?_
          refine r_iconst k_151_42 ci_4 ?_
          refine r_callv4 m_151 k_151_43 cl_8_169 m_138 (by decide) rfl rfl (Nat.le_of_ble_eq_true rfl) (Nat.le_of_ble_eq_true rfl) rfl rfl ?_
          refine s_138 (c := c) (t := j) (w := 4) hc (by omega) (by decide) hf hf4 ?_
          refine r_iload_n k_151_46 rfl ?_
          refine r_ishr k_151_47 ?_
          refine r_iconst k_151_48 ci_1 ?_
          refine r_iand k_151_49 ?_
          refine r_iconst k_151_50 ci_1 ?_
          refine r_icmp_ne k_151_51 rfl (fun c_51 => ?_) (fun c_51 => ?_)
          · refine r_iconst k_151_58 ci_0 ?_
            refine r_istore k_151_59 rfl ?_
            refine r_iincn k_151_61 rfl (nI_inc j) rfl ?_
            refine r_goto k_151_64 rfl ?_
            have e := ih (j + 1) (by omega)
            rw [hm_biF (hm_any_n (P := (fun j => decide (¬ m 15 (4 * c + j) < 0) && (decide (¬ hour < m 15 (4 * c + j)) && decide (m 4 (20 * f + 5 * j + 4) >>> (nI t &&& 31) &&& nI 1 = nI 1)))) (hm_bi0 c_14) (by rw [show decide (m 4 (20 * f + 5 * j + 4) >>> (nI t &&& 31) &&& nI 1 = nI 1) = false from decide_eq_false c_51, Bool.and_false, Bool.and_false]))] at e
            exact e
          · have c_51 := Decidable.of_not_not c_51
            refine r_iconst k_151_54 ci_1 ?_
            refine r_goto k_151_55 rfl ?_
            refine r_istore k_151_59 rfl ?_
            refine r_iincn k_151_61 rfl (nI_inc j) rfl ?_
            refine r_goto k_151_64 rfl ?_
            have e := ih (j + 1) (by omega)
            rw [hm_biT (hm_any_r (P := (fun j => decide (¬ m 15 (4 * c + j) < 0) && (decide (¬ hour < m 15 (4 * c + j)) && decide (m 4 (20 * f + 5 * j + 4) >>> (nI t &&& 31) &&& nI 1 = nI 1)))) (by rw [decide_eq_true c_24, decide_eq_true c_35, decide_eq_true c_51]; rfl))] at e
            exact e
set_option maxRecDepth 20000 in
theorem s_151 {d n s : Nat} {m : hm_M} {h : Nat → Option va_E} {Q : Option Value → hm_H → Prop} {c t : Nat} {hour : Int32} (hc : c < 16) (ht : t < 4) {f : Nat} (hf : m 10 c = nI f) (hf4 : f < 4) (hQ : Q (some (.int (hm_bi (hm_any (fun j => decide (¬ m 15 (4 * c + j) < 0) && (decide (¬ hour < m 15 (4 * c + j)) && decide (m 4 (20 * f + 5 * j + 4) >>> (nI t &&& 31) &&& nI 1 = nI 1))) 4)))) (hm_hM m h n s)) : hm_T (d + 1) 151 0 [.ref 61, .int (nI c), .int (nI t), .int hour, .retAddr 0, .retAddr 0] [] (hm_hM m h n s) Q := by
  refine r_iconst k_151_0 ci_0 ?_
  refine r_istore k_151_1 rfl ?_
  refine r_iconst k_151_3 ci_0 ?_
  refine r_istore k_151_4 rfl ?_
  exact l_151 hc ht hf hf4 hQ 4 0 (by omega)
set_option maxRecDepth 20000 in
theorem j_139 {d n s : Nat} {m : hm_M} {h : Nat → Option va_E} {Q : Option Value → hm_H → Prop} {c t : Nat} {hour : Int32} (hc : c < 16) (ht : t < 4) {f : Nat} (hf : m 10 c = nI f) (hf4 : f < 4) {j : Nat} {b hs : Bool} (K : hm_T (d + 1) 139 6 [.ref 61, .int (nI c), .int (nI t), .int hour, .int (hm_bi (b || (decide (m 4 (20 * f + 5 * t + 0) >>> (nI j &&& 31) &&& nI 1 = nI 1) && !hs))), .int (nI (j + 1)), .int (hm_bi hs)] [] (hm_hM m h n s) Q) : hm_T (d + 1) 139 51 [.ref 61, .int (nI c), .int (nI t), .int hour, .int (hm_bi b), .int (nI j), .int (hm_bi hs)] [] (hm_hM m h n s) Q := by
  refine r_iload k_139_51 rfl ?_
  refine r_if_ne k_139_53 rfl (fun c_53 => ?_) (fun c_53 => ?_)
  · refine r_iconst k_139_77 ci_1 ?_
    refine r_goto k_139_78 rfl ?_
    refine r_istore k_139_82 rfl ?_
    refine r_iincn k_139_84 rfl (nI_inc j) rfl ?_
    refine r_goto k_139_87 rfl ?_
    have hb := hm_bi1 c_53
    subst hb
    exact K
  · have c_53 := Decidable.of_not_not c_53
    refine r_aload_n k_139_56 rfl ?_
    refine r_iload_n k_139_57 rfl ?_
    refine r_iload_n k_139_58 rfl ?_
    refine r_iconst k_139_59 ci_0 ?_
    refine r_callv4 m_139 k_139_60 cl_8_169 m_138 (by decide) rfl rfl (Nat.le_of_ble_eq_true rfl) (Nat.le_of_ble_eq_true rfl) rfl rfl ?_
    refine s_138 (c := c) (t := t) (w := 0) hc ht (by decide) hf hf4 ?_
    refine r_iload k_139_63 rfl ?_
    refine r_ishr k_139_65 ?_
    refine r_iconst k_139_66 ci_1 ?_
    refine r_iand k_139_67 ?_
    refine r_iconst k_139_68 ci_1 ?_
    refine r_icmp_ne k_139_69 rfl (fun c_69 => ?_) (fun c_69 => ?_)
    · refine r_iconst k_139_81 ci_0 ?_
      refine r_istore k_139_82 rfl ?_
      refine r_iincn k_139_84 rfl (nI_inc j) rfl ?_
      refine r_goto k_139_87 rfl ?_
      have hb := hm_bi0 c_53
      subst hb
      rw [decide_eq_false c_69] at K
      exact K
    · have c_69 := Decidable.of_not_not c_69
      refine r_iload k_139_72 rfl ?_
      refine r_if_ne k_139_74 rfl (fun c_74 => ?_) (fun c_74 => ?_)
      · refine r_iconst k_139_81 ci_0 ?_
        refine r_istore k_139_82 rfl ?_
        refine r_iincn k_139_84 rfl (nI_inc j) rfl ?_
        refine r_goto k_139_87 rfl ?_
        have hb := hm_bi0 c_53
        have hh := hm_bi1 c_74
        subst hb
        subst hh
        rw [decide_eq_true c_69] at K
        exact K
      · have c_74 := Decidable.of_not_not c_74
        refine r_iconst k_139_77 ci_1 ?_
        refine r_goto k_139_78 rfl ?_
        refine r_istore k_139_82 rfl ?_
        refine r_iincn k_139_84 rfl (nI_inc j) rfl ?_
        refine r_goto k_139_87 rfl ?_
        have hb := hm_bi0 c_53
        have hh := hm_bi0 c_74
        subst hb
        subst hh
        rw [decide_eq_true c_69] at K
        exact K
set_option maxRecDepth 20000 in
theorem l_139 {d n s : Nat} {m : hm_M} {h : Nat → Option va_E} {Q : Option Value → hm_H → Prop} {c t : Nat} {hour : Int32} (hc : c < 16) (ht : t < 4) {f : Nat} (hf : m 10 c = nI f) (hf4 : f < 4) (hQ : ∀ hv : Value, Q (some (.int (hm_bi (hm_any (fun j => decide (m 4 (20 * f + 5 * t + 0) >>> (nI j &&& 31) &&& nI 1 = nI 1) && !(decide (¬ m 14 (6 * c + j) < 0) && decide (¬ hour < m 14 (6 * c + j)))) 6)))) (hm_hM m h n s)) : ∀ (k j : Nat) , j + k = 6 → ∀ hv : Value, hv.category = 1 → hm_T (d + 1) 139 6 [.ref 61, .int (nI c), .int (nI t), .int hour, .int (hm_bi (hm_any (fun j => decide (m 4 (20 * f + 5 * t + 0) >>> (nI j &&& 31) &&& nI 1 = nI 1) && !(decide (¬ m 14 (6 * c + j) < 0) && decide (¬ hour < m 14 (6 * c + j)))) j)), .int (nI j), hv] [] (hm_hM m h n s) Q := by
  intro k
  induction k with
  | zero =>
    intro j hj hv hcat
    refine r_iload k_139_6 rfl ?_
    refine r_bipush k_139_8 cb_6 ?_
    refine r_icmp_ge k_139_10 rfl (fun c_10 => ?_) (fun z => absurd (nI_le (show 6 ≤ j by omega) (by omega)) z)
    refine r_iload k_139_90 rfl ?_
    exact r_retz m_139 k_139_92 rfl hm_bi01 (by rw [show j = 6 by omega]; exact hQ (.int 0))
  | succ k ih =>
    intro j hj hv hcat
    refine r_iload k_139_6 rfl ?_
    refine r_bipush k_139_8 cb_6 ?_
    refine r_icmp_ge k_139_10 rfl (fun z => absurd z (nI_ge (show j < 6 by omega) (by omega))) (fun c_10 => ?_)
    refine r_aload_n k_139_13 rfl ?_
    refine r_get m_139 k_139_14 fl_8_44 rfl rfl ?_
    refine r_bipush k_139_17 cb_6 ?_
    refine r_iload_n k_139_19 rfl ?_
    refine r_imul k_139_20 ?_
    refine r_iload k_139_21 rfl ?_
    refine r_iadd k_139_23 ?_
    refine r_ialdn (k := 6 * c + j) k_139_24 rfl (Or.inl rfl) (by rw [nI_mul, nI_add]) (by omega) (by decide) ?_
    refine r_if_lt k_139_25 rfl (fun c_25 => ?_) (fun c_25 => ?_)
    · refine r_iconst k_139_48 ci_0 ?_
      refine r_istore k_139_49 rfl ?_
      refine j_139 (b := hm_any (fun j => decide (m 4 (20 * f + 5 * t + 0) >>> (nI j &&& 31) &&& nI 1 = nI 1) && !(decide (¬ m 14 (6 * c + j) < 0) && decide (¬ hour < m 14 (6 * c + j)))) j) (hs := false) hc ht hf hf4 ?_
      have e := ih (j + 1) (by omega) (.int (hm_bi false)) rfl
      rw [show hm_any (fun j => decide (m 4 (20 * f + 5 * t + 0) >>> (nI j &&& 31) &&& nI 1 = nI 1) && !(decide (¬ m 14 (6 * c + j) < 0) && decide (¬ hour < m 14 (6 * c + j)))) (j + 1) = (hm_any (fun j => decide (m 4 (20 * f + 5 * t + 0) >>> (nI j &&& 31) &&& nI 1 = nI 1) && !(decide (¬ m 14 (6 * c + j) < 0) && decide (¬ hour < m 14 (6 * c + j)))) j || (decide (m 4 (20 * f + 5 * t + 0) >>> (nI j &&& 31) &&& nI 1 = nI 1) && !(decide (¬ m 14 (6 * c + j) < 0) && decide (¬ hour < m 14 (6 * c + j))))) from rfl, show (decide (¬ m 14 (6 * c + j) < 0) && decide (¬ hour < m 14 (6 * c + j))) = false by rw [decide_eq_false (fun z => z c_25)]; rfl] at e
      exact e
    · refine r_aload_n k_139_28 rfl ?_
      refine r_get m_139 k_139_29 fl_8_44 rfl rfl ?_
      refine r_bipush k_139_32 cb_6 ?_
      refine r_iload_n k_139_34 rfl ?_
      refine r_imul k_139_35 ?_
      refine r_iload k_139_36 rfl ?_
      refine r_iadd k_139_38 ?_
      refine r_ialdn (k := 6 * c + j) k_139_39 rfl (Or.inl rfl) (by rw [nI_mul, nI_add]) (by omega) (by decide) ?_
      refine r_iload_n k_139_40 rfl ?_
      refine r_icmp_gt k_139_41 rfl (fun c_41 => ?_) (fun c_41 => ?_)
      · refine r_iconst k_139_48 ci_0 ?_
        refine r_istore k_139_49 rfl ?_
        refine j_139 (b := hm_any (fun j => decide (m 4 (20 * f + 5 * t + 0) >>> (nI j &&& 31) &&& nI 1 = nI 1) && !(decide (¬ m 14 (6 * c + j) < 0) && decide (¬ hour < m 14 (6 * c + j)))) j) (hs := false) hc ht hf hf4 ?_
        have e := ih (j + 1) (by omega) (.int (hm_bi false)) rfl
        rw [show hm_any (fun j => decide (m 4 (20 * f + 5 * t + 0) >>> (nI j &&& 31) &&& nI 1 = nI 1) && !(decide (¬ m 14 (6 * c + j) < 0) && decide (¬ hour < m 14 (6 * c + j)))) (j + 1) = (hm_any (fun j => decide (m 4 (20 * f + 5 * t + 0) >>> (nI j &&& 31) &&& nI 1 = nI 1) && !(decide (¬ m 14 (6 * c + j) < 0) && decide (¬ hour < m 14 (6 * c + j)))) j || (decide (m 4 (20 * f + 5 * t + 0) >>> (nI j &&& 31) &&& nI 1 = nI 1) && !(decide (¬ m 14 (6 * c + j) < 0) && decide (¬ hour < m 14 (6 * c + j))))) from rfl, show (decide (¬ m 14 (6 * c + j) < 0) && decide (¬ hour < m 14 (6 * c + j))) = false by rw [show decide (¬ hour < m 14 (6 * c + j)) = false from decide_eq_false (fun z => z c_41), Bool.and_false]] at e
        exact e
      · refine r_iconst k_139_44 ci_1 ?_
        refine r_goto k_139_45 rfl ?_
        refine r_istore k_139_49 rfl ?_
        refine j_139 (b := hm_any (fun j => decide (m 4 (20 * f + 5 * t + 0) >>> (nI j &&& 31) &&& nI 1 = nI 1) && !(decide (¬ m 14 (6 * c + j) < 0) && decide (¬ hour < m 14 (6 * c + j)))) j) (hs := true) hc ht hf hf4 ?_
        have e := ih (j + 1) (by omega) (.int (hm_bi true)) rfl
        rw [show hm_any (fun j => decide (m 4 (20 * f + 5 * t + 0) >>> (nI j &&& 31) &&& nI 1 = nI 1) && !(decide (¬ m 14 (6 * c + j) < 0) && decide (¬ hour < m 14 (6 * c + j)))) (j + 1) = (hm_any (fun j => decide (m 4 (20 * f + 5 * t + 0) >>> (nI j &&& 31) &&& nI 1 = nI 1) && !(decide (¬ m 14 (6 * c + j) < 0) && decide (¬ hour < m 14 (6 * c + j)))) j || (decide (m 4 (20 * f + 5 * t + 0) >>> (nI j &&& 31) &&& nI 1 = nI 1) && !(decide (¬ m 14 (6 * c + j) < 0) && decide (¬ hour < m 14 (6 * c + j))))) from rfl, show (decide (¬ m 14 (6 * c + j) < 0) && decide (¬ hour < m 14 (6 * c + j))) = true by rw [decide_eq_true c_25, decide_eq_true c_41]; rfl] at e
        exact e
set_option maxRecDepth 20000 in
theorem s_139 {d n s : Nat} {m : hm_M} {h : Nat → Option va_E} {Q : Option Value → hm_H → Prop} {c t : Nat} {hour : Int32} (hc : c < 16) (ht : t < 4) {f : Nat} (hf : m 10 c = nI f) (hf4 : f < 4) (hQ : Q (some (.int (hm_bi (hm_any (fun j => decide (m 4 (20 * f + 5 * t + 0) >>> (nI j &&& 31) &&& nI 1 = nI 1) && !(decide (¬ m 14 (6 * c + j) < 0) && decide (¬ hour < m 14 (6 * c + j)))) 6)))) (hm_hM m h n s)) : hm_T (d + 1) 139 0 [.ref 61, .int (nI c), .int (nI t), .int hour, .retAddr 0, .retAddr 0, .retAddr 0] [] (hm_hM m h n s) Q := by
  refine r_iconst k_139_0 ci_0 ?_
  refine r_istore k_139_1 rfl ?_
  refine r_iconst k_139_3 ci_0 ?_
  refine r_istore k_139_4 rfl ?_
  exact l_139 hc ht hf hf4 (fun _ => hQ) 6 0 (by omega) (.retAddr 0) rfl
set_option maxRecDepth 20000 in
theorem j_141 {d n s : Nat} {m : hm_M} {h : Nat → Option va_E} {Q : Option Value → hm_H → Prop} {c t : Nat} {hour : Int32} (hc : c < 16) (ht : t < 4) {f : Nat} (hf : m 10 c = nI f) (hf4 : f < 4) {j : Nat} {b hs : Bool} (K : hm_T (d + 1) 141 6 [.ref 61, .int (nI c), .int (nI t), .int hour, .int (hm_bi (b || (decide (m 4 (20 * f + 5 * t + 4) >>> (nI j &&& 31) &&& nI 1 = nI 1) && !hs))), .int (nI (j + 1)), .int (hm_bi hs)] [] (hm_hM m h n s) Q) : hm_T (d + 1) 141 40 [.ref 61, .int (nI c), .int (nI t), .int hour, .int (hm_bi b), .int (nI j), .int (hm_bi hs)] [] (hm_hM m h n s) Q := by
  refine r_iload k_141_40 rfl ?_
  refine r_if_ne k_141_42 rfl (fun c_42 => ?_) (fun c_42 => ?_)
  · refine r_iconst k_141_66 ci_1 ?_
    refine r_goto k_141_67 rfl ?_
    refine r_istore k_141_71 rfl ?_
    refine r_iincn k_141_73 rfl (nI_inc j) rfl ?_
    refine r_goto k_141_76 rfl ?_
    have hb := hm_bi1 c_42
    subst hb
    exact K
  · have c_42 := Decidable.of_not_not c_42
    refine r_aload_n k_141_45 rfl ?_
    refine r_iload_n k_141_46 rfl ?_
    refine r_iload_n k_141_47 rfl ?_
    refine r_iconst k_141_48 ci_4 ?_
    refine r_callv4 m_141 k_141_49 cl_8_169 m_138 (by decide) rfl rfl (Nat.le_of_ble_eq_true rfl) (Nat.le_of_ble_eq_true rfl) rfl rfl ?_
    refine s_138 (c := c) (t := t) (w := 4) hc ht (by decide) hf hf4 ?_
    refine r_iload k_141_52 rfl ?_
    refine r_ishr k_141_54 ?_
    refine r_iconst k_141_55 ci_1 ?_
    refine r_iand k_141_56 ?_
    refine r_iconst k_141_57 ci_1 ?_
    refine r_icmp_ne k_141_58 rfl (fun c_58 => ?_) (fun c_58 => ?_)
    · refine r_iconst k_141_70 ci_0 ?_
      refine r_istore k_141_71 rfl ?_
      refine r_iincn k_141_73 rfl (nI_inc j) rfl ?_
      refine r_goto k_141_76 rfl ?_
      have hb := hm_bi0 c_42
      subst hb
      rw [decide_eq_false c_58] at K
      exact K
    · have c_58 := Decidable.of_not_not c_58
      refine r_iload k_141_61 rfl ?_
      refine r_if_ne k_141_63 rfl (fun c_63 => ?_) (fun c_63 => ?_)
      · refine r_iconst k_141_70 ci_0 ?_
        refine r_istore k_141_71 rfl ?_
        refine r_iincn k_141_73 rfl (nI_inc j) rfl ?_
        refine r_goto k_141_76 rfl ?_
        have hb := hm_bi0 c_42
        have hh := hm_bi1 c_63
        subst hb
        subst hh
        rw [decide_eq_true c_58] at K
        exact K
      · have c_63 := Decidable.of_not_not c_63
        refine r_iconst k_141_66 ci_1 ?_
        refine r_goto k_141_67 rfl ?_
        refine r_istore k_141_71 rfl ?_
        refine r_iincn k_141_73 rfl (nI_inc j) rfl ?_
        refine r_goto k_141_76 rfl ?_
        have hb := hm_bi0 c_42
        have hh := hm_bi0 c_63
        subst hb
        subst hh
        rw [decide_eq_true c_58] at K
        exact K
set_option maxRecDepth 20000 in
theorem l_141 {d n s : Nat} {m : hm_M} {h : Nat → Option va_E} {Q : Option Value → hm_H → Prop} {c t : Nat} {hour : Int32} (hc : c < 16) (ht : t < 4) {f : Nat} (hf : m 10 c = nI f) (hf4 : f < 4) (hQ : Q (some (.int (hm_bi (hm_any (fun j => decide (m 4 (20 * f + 5 * t + 4) >>> (nI j &&& 31) &&& nI 1 = nI 1) && !(decide (¬ m 15 (4 * c + j) < 0) && decide (¬ hour ≤ m 15 (4 * c + j)))) 4)))) (hm_hM m h n s)) : ∀ (k j : Nat) , j + k = 4 → ∀ hv : Value, hv.category = 1 → hm_T (d + 1) 141 6 [.ref 61, .int (nI c), .int (nI t), .int hour, .int (hm_bi (hm_any (fun j => decide (m 4 (20 * f + 5 * t + 4) >>> (nI j &&& 31) &&& nI 1 = nI 1) && !(decide (¬ m 15 (4 * c + j) < 0) && decide (¬ hour ≤ m 15 (4 * c + j)))) j)), .int (nI j), hv] [] (hm_hM m h n s) Q := by
  intro k
  induction k with
  | zero =>
    intro j hj hv hcat
    refine r_iload k_141_6 rfl ?_
    refine r_iconst k_141_8 ci_4 ?_
    refine r_icmp_ge k_141_9 rfl (fun c_9 => ?_) (fun z => absurd (nI_le (show 4 ≤ j by omega) (by omega)) z)
    refine r_iload k_141_79 rfl ?_
    exact r_retz m_141 k_141_81 rfl hm_bi01 (by rw [show j = 4 by omega]; exact hQ)
  | succ k ih =>
    intro j hj hv hcat
    refine r_iload k_141_6 rfl ?_
    refine r_iconst k_141_8 ci_4 ?_
    refine r_icmp_ge k_141_9 rfl (fun z => absurd z (nI_ge (show j < 4 by omega) (by omega))) (fun c_9 => ?_)
    refine r_aload_n k_141_12 rfl ?_
    refine r_iload_n k_141_13 rfl ?_
    refine r_iload k_141_14 rfl ?_
    refine r_callv3 m_141 k_141_16 cl_8_92 m_122 (by decide) rfl rfl (Nat.le_of_ble_eq_true rfl) (Nat.le_of_ble_eq_true rfl) rfl rfl ?_
    refine s_122 (c := c) (t := j) hc (by omega) ?_
    refine r_if_lt k_141_19 rfl (fun c_19 => ?_) (fun c_19 => ?_)
    · refine r_iconst k_141_37 ci_0 ?_
      refine r_istore k_141_38 rfl ?_
      refine j_141 (b := hm_any (fun j => decide (m 4 (20 * f + 5 * t + 4) >>> (nI j &&& 31) &&& nI 1 = nI 1) && !(decide (¬ m 15 (4 * c + j) < 0) && decide (¬ hour ≤ m 15 (4 * c + j)))) j) (hs := false) hc ht hf hf4 ?_
      have e := ih (j + 1) (by omega) (.int (hm_bi false)) rfl
      rw [show hm_any (fun j => decide (m 4 (20 * f + 5 * t + 4) >>> (nI j &&& 31) &&& nI 1 = nI 1) && !(decide (¬ m 15 (4 * c + j) < 0) && decide (¬ hour ≤ m 15 (4 * c + j)))) (j + 1) = (hm_any (fun j => decide (m 4 (20 * f + 5 * t + 4) >>> (nI j &&& 31) &&& nI 1 = nI 1) && !(decide (¬ m 15 (4 * c + j) < 0) && decide (¬ hour ≤ m 15 (4 * c + j)))) j || (decide (m 4 (20 * f + 5 * t + 4) >>> (nI j &&& 31) &&& nI 1 = nI 1) && !(decide (¬ m 15 (4 * c + j) < 0) && decide (¬ hour ≤ m 15 (4 * c + j))))) from rfl, show (decide (¬ m 15 (4 * c + j) < 0) && decide (¬ hour ≤ m 15 (4 * c + j))) = false by rw [decide_eq_false (fun z => z c_19)]; rfl] at e
      exact e
    · refine r_aload_n k_141_22 rfl ?_
      refine r_iload_n k_141_23 rfl ?_
      refine r_iload k_141_24 rfl ?_
      refine r_callv3 m_141 k_141_26 cl_8_92 m_122 (by decide) rfl rfl (Nat.le_of_ble_eq_true rfl) (Nat.le_of_ble_eq_true rfl) rfl rfl ?_
      refine s_122 (c := c) (t := j) hc (by omega) ?_
      refine r_iload_n k_141_29 rfl ?_
      refine r_icmp_ge k_141_30 rfl (fun c_30 => ?_) (fun c_30 => ?_)
      · refine r_iconst k_141_37 ci_0 ?_
        refine r_istore k_141_38 rfl ?_
        refine j_141 (b := hm_any (fun j => decide (m 4 (20 * f + 5 * t + 4) >>> (nI j &&& 31) &&& nI 1 = nI 1) && !(decide (¬ m 15 (4 * c + j) < 0) && decide (¬ hour ≤ m 15 (4 * c + j)))) j) (hs := false) hc ht hf hf4 ?_
        have e := ih (j + 1) (by omega) (.int (hm_bi false)) rfl
        rw [show hm_any (fun j => decide (m 4 (20 * f + 5 * t + 4) >>> (nI j &&& 31) &&& nI 1 = nI 1) && !(decide (¬ m 15 (4 * c + j) < 0) && decide (¬ hour ≤ m 15 (4 * c + j)))) (j + 1) = (hm_any (fun j => decide (m 4 (20 * f + 5 * t + 4) >>> (nI j &&& 31) &&& nI 1 = nI 1) && !(decide (¬ m 15 (4 * c + j) < 0) && decide (¬ hour ≤ m 15 (4 * c + j)))) j || (decide (m 4 (20 * f + 5 * t + 4) >>> (nI j &&& 31) &&& nI 1 = nI 1) && !(decide (¬ m 15 (4 * c + j) < 0) && decide (¬ hour ≤ m 15 (4 * c + j))))) from rfl, show (decide (¬ m 15 (4 * c + j) < 0) && decide (¬ hour ≤ m 15 (4 * c + j))) = false by rw [show decide (¬ hour ≤ m 15 (4 * c + j)) = false from decide_eq_false (fun z => z c_30), Bool.and_false]] at e
        exact e
      · refine r_iconst k_141_33 ci_1 ?_
        refine r_goto k_141_34 rfl ?_
        refine r_istore k_141_38 rfl ?_
        refine j_141 (b := hm_any (fun j => decide (m 4 (20 * f + 5 * t + 4) >>> (nI j &&& 31) &&& nI 1 = nI 1) && !(decide (¬ m 15 (4 * c + j) < 0) && decide (¬ hour ≤ m 15 (4 * c + j)))) j) (hs := true) hc ht hf hf4 ?_
        have e := ih (j + 1) (by omega) (.int (hm_bi true)) rfl
        rw [show hm_any (fun j => decide (m 4 (20 * f + 5 * t + 4) >>> (nI j &&& 31) &&& nI 1 = nI 1) && !(decide (¬ m 15 (4 * c + j) < 0) && decide (¬ hour ≤ m 15 (4 * c + j)))) (j + 1) = (hm_any (fun j => decide (m 4 (20 * f + 5 * t + 4) >>> (nI j &&& 31) &&& nI 1 = nI 1) && !(decide (¬ m 15 (4 * c + j) < 0) && decide (¬ hour ≤ m 15 (4 * c + j)))) j || (decide (m 4 (20 * f + 5 * t + 4) >>> (nI j &&& 31) &&& nI 1 = nI 1) && !(decide (¬ m 15 (4 * c + j) < 0) && decide (¬ hour ≤ m 15 (4 * c + j))))) from rfl, show (decide (¬ m 15 (4 * c + j) < 0) && decide (¬ hour ≤ m 15 (4 * c + j))) = true by rw [decide_eq_true c_19, decide_eq_true c_30]; rfl] at e
        exact e
set_option maxRecDepth 20000 in
theorem s_141 {d n s : Nat} {m : hm_M} {h : Nat → Option va_E} {Q : Option Value → hm_H → Prop} {c t : Nat} {hour : Int32} (hc : c < 16) (ht : t < 4) {f : Nat} (hf : m 10 c = nI f) (hf4 : f < 4) (hQ : Q (some (.int (hm_bi (hm_any (fun j => decide (m 4 (20 * f + 5 * t + 4) >>> (nI j &&& 31) &&& nI 1 = nI 1) && !(decide (¬ m 15 (4 * c + j) < 0) && decide (¬ hour ≤ m 15 (4 * c + j)))) 4)))) (hm_hM m h n s)) : hm_T (d + 1) 141 0 [.ref 61, .int (nI c), .int (nI t), .int hour, .retAddr 0, .retAddr 0, .retAddr 0] [] (hm_hM m h n s) Q := by
  refine r_iconst k_141_0 ci_0 ?_
  refine r_istore k_141_1 rfl ?_
  refine r_iconst k_141_3 ci_0 ?_
  refine r_istore k_141_4 rfl ?_
  exact l_141 hc ht hf hf4 hQ 4 0 (by omega) (.retAddr 0) rfl
def hm_hin (m : hm_M) (f c t : Nat) (hour : Int32) : Int32 := if m 11 c < hour then (if ¬ m 4 (20 * f + 5 * t + 3) = nI 1 then (if hm_bi (hm_any (fun j => decide (m 4 (20 * f + 5 * t + 0) >>> (nI j &&& 31) &&& nI 1 = nI 1) && !(decide (¬ m 14 (6 * c + j) < 0) && decide (¬ hour < m 14 (6 * c + j)))) 6) = 0 then (if hm_out (hour - m 11 c) (m 4 (20 * f + 5 * t + 1)) (m 4 (20 * f + 5 * t + 2)) = 0 then (if hm_bi (hm_any (fun j => decide (m 4 (20 * f + 5 * t + 4) >>> (nI j &&& 31) &&& nI 1 = nI 1) && !(decide (¬ m 15 (4 * c + j) < 0) && decide (¬ hour ≤ m 15 (4 * c + j)))) 4) = 0 then nI 0 else nI 6) else nI 5) else nI 4) else nI 3) else nI 2
set_option maxRecDepth 20000 in
theorem s_137 {d n s : Nat} {m : hm_M} {h : Nat → Option va_E} {Q : Option Value → hm_H → Prop} {c t : Nat} {hour : Int32} (hc : c < 16) (ht : t < 4) {f : Nat} (hf : m 10 c = nI f) (hf4 : f < 4) (hQ : Q (some (.int (hm_hin m f c t hour))) (hm_hM m h n s)) : hm_T (d + 2) 137 0 [.ref 61, .int (nI c), .int (nI t), .int hour] [] (hm_hM m h n s) Q := by
  refine r_iload_n k_137_0 rfl ?_
  refine r_aload_n k_137_1 rfl ?_
  refine r_get m_137 k_137_2 fl_8_35 rfl rfl ?_
  refine r_iload_n k_137_5 rfl ?_
  refine r_ialdn (k := c) k_137_6 rfl (Or.inl rfl) rfl (by omega) (by decide) ?_
  refine r_icmp_gt k_137_7 rfl (fun c_7 => ?_) (fun c_7 => ?_)
  · refine r_aload_n k_137_14 rfl ?_
    refine r_iload_n k_137_15 rfl ?_
    refine r_iload_n k_137_16 rfl ?_
    refine r_iconst k_137_17 ci_3 ?_
    refine r_callv4 m_137 k_137_18 cl_8_169 m_138 (by decide) rfl rfl (Nat.le_of_ble_eq_true rfl) (Nat.le_of_ble_eq_true rfl) rfl rfl ?_
    refine s_138 (c := c) (t := t) (w := 3) hc ht (by decide) hf hf4 ?_
    refine r_iconst k_137_21 ci_1 ?_
    refine r_icmp_ne k_137_22 rfl (fun c_22 => ?_) (fun c_22 => ?_)
    · refine r_aload_n k_137_29 rfl ?_
      refine r_iload_n k_137_30 rfl ?_
      refine r_iload_n k_137_31 rfl ?_
      refine r_iload_n k_137_32 rfl ?_
      refine r_callv4 m_137 k_137_33 cl_8_173 m_139 (by decide) rfl rfl (Nat.le_of_ble_eq_true rfl) (Nat.le_of_ble_eq_true rfl) rfl rfl ?_
      refine s_139 hc ht hf hf4 ?_
      refine r_if_eq k_137_36 rfl (fun c_36 => ?_) (fun c_36 => ?_)
      · refine r_aload_n k_137_43 rfl ?_
        refine r_iload_n k_137_44 rfl ?_
        refine r_iload_n k_137_45 rfl ?_
        refine r_iload_n k_137_46 rfl ?_
        refine r_callv4 m_137 k_137_47 cl_8_177 m_140 (by decide) rfl rfl (Nat.le_of_ble_eq_true rfl) (Nat.le_of_ble_eq_true rfl) rfl rfl ?_
        refine s_140 hc ht hf hf4 ?_
        refine r_if_eq k_137_50 rfl (fun c_50 => ?_) (fun c_50 => ?_)
        · refine r_aload_n k_137_57 rfl ?_
          refine r_iload_n k_137_58 rfl ?_
          refine r_iload_n k_137_59 rfl ?_
          refine r_iload_n k_137_60 rfl ?_
          refine r_callv4 m_137 k_137_61 cl_8_180 m_141 (by decide) rfl rfl (Nat.le_of_ble_eq_true rfl) (Nat.le_of_ble_eq_true rfl) rfl rfl ?_
          refine s_141 hc ht hf hf4 ?_
          refine r_if_eq k_137_64 rfl (fun c_64 => ?_) (fun c_64 => ?_)
          · refine r_iconst k_137_72 ci_0 ?_
            exact hm_T.ret m_137 k_137_73 rfl (by first | (simp only [hm_hin, c_7, c_22, c_36, c_50, c_64, and_self, not_true_eq_false, not_false_eq_true, ↓reduceIte] at hQ; exact hQ) | contradiction)
          · refine r_bipush k_137_67 cb_6 ?_
            refine r_goto k_137_69 rfl ?_
            exact hm_T.ret m_137 k_137_73 rfl (by first | (simp only [hm_hin, c_7, c_22, c_36, c_50, c_64, and_self, not_true_eq_false, not_false_eq_true, ↓reduceIte] at hQ; exact hQ) | contradiction)
        · refine r_iconst k_137_53 ci_5 ?_
          refine r_goto k_137_54 rfl ?_
          exact hm_T.ret m_137 k_137_73 rfl (by first | (simp only [hm_hin, c_7, c_22, c_36, c_50, and_self, not_true_eq_false, not_false_eq_true, ↓reduceIte] at hQ; exact hQ) | contradiction)
      · refine r_iconst k_137_39 ci_4 ?_
        refine r_goto k_137_40 rfl ?_
        exact hm_T.ret m_137 k_137_73 rfl (by first | (simp only [hm_hin, c_7, c_22, c_36, and_self, not_true_eq_false, not_false_eq_true, ↓reduceIte] at hQ; exact hQ) | contradiction)
    · have c_22 := Decidable.of_not_not c_22
      refine r_iconst k_137_25 ci_3 ?_
      refine r_goto k_137_26 rfl ?_
      exact hm_T.ret m_137 k_137_73 rfl (by first | (simp only [hm_hin, c_7, c_22, and_self, not_true_eq_false, not_false_eq_true, ↓reduceIte] at hQ; exact hQ) | contradiction)
  · refine r_iconst k_137_10 ci_2 ?_
    refine r_goto k_137_11 rfl ?_
    exact hm_T.ret m_137 k_137_73 rfl (by first | (simp only [hm_hin, c_7, and_self, not_true_eq_false, not_false_eq_true, ↓reduceIte] at hQ; exact hQ) | contradiction)
