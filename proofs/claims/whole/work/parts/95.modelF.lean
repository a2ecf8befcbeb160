set_option maxRecDepth 20000 in
theorem s_158_bad {d n s : Nat} {m : hm_M} {h : Nat → Option va_E} {Q : Option Value → hm_H → Prop} {nc : Nat} (hn : m 9 0 = nI nc) (hnc : nc ≤ 16) {c t : Int32} (hb : ¬ (0 ≤ c.toInt ∧ c.toInt < nc)) (hQ : Q (some (.int (-1001))) (hm_hM m h n s)) : hm_T (d + 4) 158 0 [.ref 61, .int c, .int t] [] (hm_hM m h n s) Q := by
  refine r_aload_n k_158_0 rfl ?_
  refine r_iload_n k_158_1 rfl ?_
  refine r_callv2 m_158 k_158_2 cl_8_213 m_148 (by decide) rfl rfl (Nat.le_of_ble_eq_true rfl) (Nat.le_of_ble_eq_true rfl) rfl rfl ?_
  refine s_148 hn hnc ?_
  rw [if_neg hb]
  refine r_if_ne k_158_5 rfl (fun z => absurd z (fun z => z rfl)) (fun c_5 => ?_)
  refine r_sipush k_158_8 cs_m1001 ?_
  exact hm_T.ret m_158 k_158_11 rfl hQ
set_option maxRecDepth 20000 in
theorem s_158_out {d n s : Nat} {m : hm_M} {h : Nat → Option va_E} {Q : Option Value → hm_H → Prop} {nc : Nat} (hn : m 9 0 = nI nc) (hnc : nc ≤ 16) {c t : Int32} (hb : (0 ≤ c.toInt ∧ c.toInt < nc)) (ht : ¬ (0 ≤ t.toInt ∧ t.toInt ≤ 3)) (hQ : Q (some (.int (-1002))) (hm_hM m h n s)) : hm_T (d + 4) 158 0 [.ref 61, .int c, .int t] [] (hm_hM m h n s) Q := by
  refine r_aload_n k_158_0 rfl ?_
  refine r_iload_n k_158_1 rfl ?_
  refine r_callv2 m_158 k_158_2 cl_8_213 m_148 (by decide) rfl rfl (Nat.le_of_ble_eq_true rfl) (Nat.le_of_ble_eq_true rfl) rfl rfl ?_
  refine s_148 hn hnc ?_
  rw [if_pos hb]
  refine r_if_ne k_158_5 rfl (fun c_5 => ?_) (fun z => absurd (show ¬ (1 : Int32) = 0 by decide) z)
  refine r_iload_n k_158_12 rfl ?_
  refine r_calls1 m_158 k_158_13 cl_8_165 m_144 (by decide) rfl rfl (Nat.le_of_ble_eq_true rfl) (Nat.le_of_ble_eq_true rfl) ?_
  refine s_144 ?_
  rw [if_neg ht]
  refine r_if_ne k_158_16 rfl (fun z => absurd z (fun z => z rfl)) (fun c_16 => ?_)
  refine r_sipush k_158_19 cs_m1002 ?_
  exact hm_T.ret m_158 k_158_22 rfl hQ
set_option maxRecDepth 20000 in
theorem s_158_not {d n s : Nat} {m : hm_M} {h : Nat → Option va_E} {Q : Option Value → hm_H → Prop} {nc : Nat} (hn : m 9 0 = nI nc) (hnc : nc ≤ 16) {c t : Nat} (hc : c < nc) (ht : t < 4) (hx : m 15 (4 * c + t) < 0) (hQ : Q (some (.int (-1003))) (hm_hM m h n s)) : hm_T (d + 4) 158 0 [.ref 61, .int (nI c), .int (nI t)] [] (hm_hM m h n s) Q := by
  refine r_aload_n k_158_0 rfl ?_
  refine r_iload_n k_158_1 rfl ?_
  refine r_callv2 m_158 k_158_2 cl_8_213 m_148 (by decide) rfl rfl (Nat.le_of_ble_eq_true rfl) (Nat.le_of_ble_eq_true rfl) rfl rfl ?_
  refine s_148 hn hnc ?_
  rw [if_pos (by rw [nI_toInt (by omega)]; omega)]
  refine r_if_ne k_158_5 rfl (fun c_5 => ?_) (fun z => absurd (show ¬ (1 : Int32) = 0 by decide) z)
  refine r_iload_n k_158_12 rfl ?_
  refine r_calls1 m_158 k_158_13 cl_8_165 m_144 (by decide) rfl rfl (Nat.le_of_ble_eq_true rfl) (Nat.le_of_ble_eq_true rfl) ?_
  refine s_144 ?_
  rw [if_pos (by rw [nI_toInt (by omega)]; omega)]
  refine r_if_ne k_158_16 rfl (fun c_16 => ?_) (fun z => absurd (show ¬ (1 : Int32) = 0 by decide) z)
  refine r_aload_n k_158_23 rfl ?_
  refine r_iload_n k_158_24 rfl ?_
  refine r_iload_n k_158_25 rfl ?_
  refine r_callv3 m_158 k_158_26 cl_8_92 m_122 (by decide) rfl rfl (Nat.le_of_ble_eq_true rfl) (Nat.le_of_ble_eq_true rfl) rfl rfl ?_
  refine s_122 (c := c) (t := t) (by omega) ht ?_
  refine r_if_ge k_158_29 rfl (fun z => absurd z (Int32.not_le.mpr hx)) (fun c_29 => ?_)
  refine r_sipush k_158_32 cs_m1003 ?_
  exact hm_T.ret m_158 k_158_35 rfl hQ
set_option maxRecDepth 20000 in
theorem s_158 {d n s : Nat} {m : hm_M} {h : Nat → Option va_E} {Q : Option Value → hm_H → Prop} {nc : Nat} (hn : m 9 0 = nI nc) (hnc : nc ≤ 16) {c t : Nat} (hc : c < nc) (ht : t < 4) (hx : ¬ m 15 (4 * c + t) < 0) (hF : ∀ c, c < nc → ∃ f, m 10 c = nI f ∧ f < 4) {k : Nat} {r : Nat × hm_M} (hR : hm_pr (nI c) (-1) nc k (hm_uM (hm_uM m 15 (upd (m 15) (4 * c + t) (-1))) 17 (fun _ => m 17 0 + nI 1)) 0 0 = some r) (hQ : Q (some (.int (nI 1 + nI r.1))) (hm_hM (hm_un r) h n s)) : hm_T (d + 4) 158 0 [.ref 61, .int (nI c), .int (nI t)] [] (hm_hM m h n s) Q := by
  refine r_aload_n k_158_0 rfl ?_
  refine r_iload_n k_158_1 rfl ?_
  refine r_callv2 m_158 k_158_2 cl_8_213 m_148 (by decide) rfl rfl (Nat.le_of_ble_eq_true rfl) (Nat.le_of_ble_eq_true rfl) rfl rfl ?_
  refine s_148 hn hnc ?_
  rw [if_pos (by rw [nI_toInt (by omega)]; omega)]
  refine r_if_ne k_158_5 rfl (fun c_5 => ?_) (fun z => absurd (show ¬ (1 : Int32) = 0 by decide) z)
  refine r_iload_n k_158_12 rfl ?_
  refine r_calls1 m_158 k_158_13 cl_8_165 m_144 (by decide) rfl rfl (Nat.le_of_ble_eq_true rfl) (Nat.le_of_ble_eq_true rfl) ?_
  refine s_144 ?_
  rw [if_pos (by rw [nI_toInt (by omega)]; omega)]
  refine r_if_ne k_158_16 rfl (fun c_16 => ?_) (fun z => absurd (show ¬ (1 : Int32) = 0 by decide) z)
  refine r_aload_n k_158_23 rfl ?_
  refine r_iload_n k_158_24 rfl ?_
  refine r_iload_n k_158_25 rfl ?_
  refine r_callv3 m_158 k_158_26 cl_8_92 m_122 (by decide) rfl rfl (Nat.le_of_ble_eq_true rfl) (Nat.le_of_ble_eq_true rfl) rfl rfl ?_
  refine s_122 (c := c) (t := t) (by omega) ht ?_
  refine r_if_ge k_158_29 rfl (fun c_29 => ?_) (fun z => absurd (Int32.not_lt.mp hx) z)
  refine r_aload_n k_158_36 rfl ?_
  refine r_get m_158 k_158_37 fl_8_47 rfl rfl ?_
  refine r_iconst k_158_40 ci_4 ?_
  refine r_iload_n k_158_41 rfl ?_
  refine r_imul k_158_42 ?_
  refine r_iload_n k_158_43 rfl ?_
  refine r_iadd k_158_44 ?_
  refine r_iconst k_158_45 ci_m1 ?_
  refine r_iastn (k := 4 * c + t) k_158_46 rfl rfl (by rw [nI_mul, nI_add]) (by omega) (by decide) (wM_15 _) ?_
  refine r_aload_n k_158_47 rfl ?_
  refine r_dup k_158_48 rfl ?_
  refine r_get m_158 k_158_49 fl_8_210 rfl rfl ?_
  refine r_iconst k_158_52 ci_1 ?_
  refine r_iadd k_158_53 ?_
  refine r_put m_158 k_158_54 fl_8_210 rfl (Nat.le_of_ble_eq_true rfl) rfl rfl (wM_17 _) ?_
  refine r_iconst k_158_57 ci_1 ?_
  refine r_aload_n k_158_58 rfl ?_
  refine r_iload_n k_158_59 rfl ?_
  refine r_iconst k_158_60 ci_m1 ?_
  refine r_callv3 m_158 k_158_61 cl_8_162 m_136 (by decide) rfl rfl (Nat.le_of_ble_eq_true rfl) (Nat.le_of_ble_eq_true rfl) rfl rfl ?_
  exact s_136 (m := hm_uM (hm_uM m 15 (upd (m 15) (4 * c + t) (-1))) 17 (fun _ => m 17 0 + nI 1)) hn hnc hF hR (r_iadd k_158_64 (hm_T.ret m_158 k_158_65 rfl hQ))
def hm_ch (op : Nat → Bool) : Nat → Nat → Int32 → Int32
  | 0, _, _ => -1
  | k + 1, j, a => if op j = true then (if a = 0 then nI j else hm_ch op k (j + 1) (a + Int32.ofInt (-1))) else hm_ch op k (j + 1) a
def hm_opn (m : hm_M) (hour : Int32) (j : Nat) : Bool := decide (m 1 j >>> ((hour - hour / nI 10 * nI 10) &&& 31) &&& nI 1 = nI 1)
set_option maxRecDepth 20000 in
theorem l_160 {d n s : Nat} {m : hm_M} {h : Nat → Option va_E} {Q : Option Value → hm_H → Prop} {c0 : Nat} {hour : Int32} : ∀ (k j : Nat) (a : Int32), j + k = 3 → Q (some (.int (hm_ch (hm_opn m hour) k j a))) (hm_hM m h n s) → hm_T d 160 46 [.ref 61, .int (nI c0), .int hour, .int a, .int (nI j)] [] (hm_hM m h n s) Q := by
  intro k
  induction k with
  | zero =>
    intro j a hj hQ
    refine r_iload k_160_46 rfl ?_
    refine r_iconst k_160_48 ci_3 ?_
    refine r_icmp_ge k_160_49 rfl (fun c_49 => ?_) (fun z => absurd (nI_le (show 3 ≤ j by omega) (by omega)) z)
    refine r_iconst k_160_86 ci_m1 ?_
    exact hm_T.ret m_160 k_160_87 rfl hQ
  | succ k ih =>
    intro j a hj hQ
    refine r_iload k_160_46 rfl ?_
    refine r_iconst k_160_48 ci_3 ?_
    refine r_icmp_ge k_160_49 rfl (fun z => absurd z (nI_ge (show j < 3 by omega) (by omega))) (fun c_49 => ?_)
    refine r_aload_n k_160_52 rfl ?_
    refine r_get m_160 k_160_53 fl_8_13 rfl rfl ?_
    refine r_iload k_160_56 rfl ?_
    refine r_ialdn (k := j) k_160_58 rfl (Or.inl rfl) rfl (by omega) (by decide) ?_
    refine r_iload_n k_160_59 rfl ?_
    refine r_bipush k_160_60 cb_10 ?_
    refine r_irem k_160_62 (by decide) ?_
    refine r_ishr k_160_63 ?_
    refine r_iconst k_160_64 ci_1 ?_
    refine r_iand k_160_65 ?_
    refine r_iconst k_160_66 ci_1 ?_
    refine r_icmp_ne k_160_67 rfl (fun c_67 => ?_) (fun c_67 => ?_)
    · refine r_iincn k_160_80 rfl (nI_inc j) rfl ?_
      refine r_goto k_160_83 rfl ?_
      refine ih (j + 1) _ (by omega) ?_
      rw [show hm_ch (hm_opn m hour) (k + 1) j a = hm_ch (hm_opn m hour) k (j + 1) a from if_neg (by rw [show hm_opn m hour j = false from decide_eq_false c_67]; decide)] at hQ
      exact hQ
    · have c_67 := Decidable.of_not_not c_67
      refine r_iload_n k_160_70 rfl ?_
      refine r_if_ne k_160_71 rfl (fun c_71 => ?_) (fun c_71 => ?_)
      · refine r_iinc k_160_77 rfl rfl ?_
        refine r_iincn k_160_80 rfl (nI_inc j) rfl ?_
        refine r_goto k_160_83 rfl ?_
        refine ih (j + 1) _ (by omega) ?_
        rw [show hm_ch (hm_opn m hour) (k + 1) j a = hm_ch (hm_opn m hour) k (j + 1) (a + Int32.ofInt (-1)) by show (if _ then (if _ then _ else _) else _) = _; rw [if_pos (show hm_opn m hour j = true from decide_eq_true c_67), if_neg c_71]] at hQ
        exact hQ
      · have c_71 := Decidable.of_not_not c_71
        refine r_iload k_160_74 rfl ?_
        exact hm_T.ret m_160 k_160_76 rfl (by rw [show hm_ch (hm_opn m hour) (k + 1) j a = nI j by show (if _ then (if _ then _ else _) else _) = _; rw [if_pos (show hm_opn m hour j = true from decide_eq_true c_67), if_pos c_71]] at hQ; exact hQ)
set_option maxRecDepth 20000 in
theorem l_160b {d n s : Nat} {m : hm_M} {h : Nat → Option va_E} {Q : Option Value → hm_H → Prop} {c0 : Nat} (hc : c0 < 16) {hour : Int32} (hK : hm_T (d + 1) 160 43 [.ref 61, .int (nI c0), .int hour, .int (nI (hm_cnt (fun c => decide (m 15 (4 * c + 1) = hour)) c0)), .int (nI c0)] [] (hm_hM m h n s) Q) : ∀ (k c : Nat), c + k = c0 → hm_T (d + 1) 160 12 [.ref 61, .int (nI c0), .int hour, .int (nI (hm_cnt (fun c => decide (m 15 (4 * c + 1) = hour)) c)), .int (nI c)] [] (hm_hM m h n s) Q := by
  intro k
  induction k with
  | zero =>
    intro c hj
    refine r_iload k_160_12 rfl ?_
    refine r_iload_n k_160_14 rfl ?_
    refine r_icmp_ge k_160_15 rfl (fun c_15 => ?_) (fun z => absurd (nI_le (show c0 ≤ c by omega) (by omega)) z)
    rw [show c = c0 by omega]
    exact hK
  | succ k ih =>
    intro c hj
    refine r_iload k_160_12 rfl ?_
    refine r_iload_n k_160_14 rfl ?_
    refine r_icmp_ge k_160_15 rfl (fun z => absurd z (nI_ge (show c < c0 by omega) (by omega))) (fun c_15 => ?_)
    refine r_iload_n k_160_18 rfl ?_
    refine r_aload_n k_160_19 rfl ?_
    refine r_iload k_160_20 rfl ?_
    refine r_iconst k_160_22 ci_1 ?_
    refine r_callv3 m_160 k_160_23 cl_8_92 m_122 (by decide) rfl rfl (Nat.le_of_ble_eq_true rfl) (Nat.le_of_ble_eq_true rfl) rfl rfl ?_
    refine s_122 (c := c) (t := 1) (by omega) (by decide) ?_
    refine r_iload_n k_160_26 rfl ?_
    refine r_icmp_ne k_160_27 rfl (fun c_27 => ?_) (fun c_27 => ?_)
    · refine r_iconst k_160_34 ci_0 ?_
      refine r_iadd k_160_35 ?_
      refine r_istore_n k_160_36 rfl ?_
      refine r_iincn k_160_37 rfl (nI_inc c) rfl ?_
      refine r_goto k_160_40 rfl ?_
      have e := ih (c + 1) (by omega)
      rw [hm_cnt_n (P := (fun c => decide (m 15 (4 * c + 1) = hour))) (decide_eq_false c_27)] at e
      exact e
    · have c_27 := Decidable.of_not_not c_27
      refine r_iconst k_160_30 ci_1 ?_
      refine r_goto k_160_31 rfl ?_
      refine r_iadd k_160_35 ?_
      refine r_istore_n k_160_36 rfl ?_
      refine r_iincn k_160_37 rfl (nI_inc c) rfl ?_
      refine r_goto k_160_40 rfl ?_
      have e := ih (c + 1) (by omega)
      rw [hm_cnt_y (P := (fun c => decide (m 15 (4 * c + 1) = hour))) (decide_eq_true c_27)] at e
      exact e
set_option maxRecDepth 20000 in
theorem s_160 {d n s : Nat} {m : hm_M} {h : Nat → Option va_E} {Q : Option Value → hm_H → Prop} {c : Nat} (hc : c < 16) (hQ : Q (some (.int (hm_ch (hm_opn m (m 15 (4 * c + 1))) 3 0 (nI (hm_cnt (fun i => decide (m 15 (4 * i + 1) = m 15 (4 * c + 1))) c))))) (hm_hM m h n s)) : hm_T (d + 1) 160 0 [.ref 61, .int (nI c), .retAddr 0, .retAddr 0, .retAddr 0] [] (hm_hM m h n s) Q := by
  refine r_aload_n k_160_0 rfl ?_
  refine r_iload_n k_160_1 rfl ?_
  refine r_iconst k_160_2 ci_1 ?_
  refine r_callv3 m_160 k_160_3 cl_8_92 m_122 (by decide) rfl rfl (Nat.le_of_ble_eq_true rfl) (Nat.le_of_ble_eq_true rfl) rfl rfl ?_
  refine s_122 (c := c) (t := 1) hc (by decide) ?_
  refine r_istore_n k_160_6 rfl ?_
  refine r_iconst k_160_7 ci_0 ?_
  refine r_istore_n k_160_8 rfl ?_
  refine r_iconst k_160_9 ci_0 ?_
  refine r_istore k_160_10 rfl ?_
  refine l_160b (hour := m 15 (4 * c + 1)) hc ?_ c 0 (by omega)
  refine r_iconst k_160_43 ci_0 ?_
  refine r_istore k_160_44 rfl ?_
  exact l_160 3 0 _ (by omega) hQ
def hm_car (m : hm_M) (hour : Int32) : Nat → Int32 := (fun c => if m 15 (4 * c + 1) = hour then m 12 c else if ¬ m 15 (4 * c + 3) = hour then nI 0 else m 12 c)
set_option maxRecDepth 20000 in
theorem l_162 {d n s : Nat} {m : hm_M} {h : Nat → Option va_E} {Q : Option Value → hm_H → Prop} {nc : Nat} (hn : m 9 0 = nI nc) (hnc : nc ≤ 16) {hour w : Int32} (hK : hm_T (d + 1) 162 67 [.ref 61, .int hour, .int w, .int (hm_sg (hm_car m hour) nc), .int (nI nc)] [] (hm_hM m h n s) Q) : ∀ (k c : Nat), c + k = nc → hm_T (d + 1) 162 16 [.ref 61, .int hour, .int w, .int (hm_sg (hm_car m hour) c), .int (nI c)] [] (hm_hM m h n s) Q := by
  intro k
  induction k with
  | zero =>
    intro c hj
    refine r_iload k_162_16 rfl ?_
    refine r_aload_n k_162_18 rfl ?_
    refine r_get m_162 k_162_19 fl_8_81 rfl rfl ?_
    rw [hn]
    refine r_icmp_ge k_162_22 rfl (fun c_22 => ?_) (fun z => absurd (nI_le (show nc ≤ c by omega) (by omega)) z)
    rw [show c = nc by omega]
    exact hK
  | succ k ih =>
    intro c hj
    refine r_iload k_162_16 rfl ?_
    refine r_aload_n k_162_18 rfl ?_
    refine r_get m_162 k_162_19 fl_8_81 rfl rfl ?_
    rw [hn]
    refine r_icmp_ge k_162_22 rfl (fun z => absurd z (nI_ge (show c < nc by omega) (by omega))) (fun c_22 => ?_)
    refine r_iload_n k_162_25 rfl ?_
    refine r_aload_n k_162_26 rfl ?_
    refine r_iload k_162_27 rfl ?_
    refine r_iconst k_162_29 ci_1 ?_
    refine r_callv3 m_162 k_162_30 cl_8_92 m_122 (by decide) rfl rfl (Nat.le_of_ble_eq_true rfl) (Nat.le_of_ble_eq_true rfl) rfl rfl ?_
    refine s_122 (c := c) (t := 1) (by omega) (by decide) ?_
    refine r_iload_n k_162_33 rfl ?_
    refine r_icmp_eq k_162_34 rfl (fun c_34 => ?_) (fun c_34 => ?_)
    · refine r_aload_n k_162_48 rfl ?_
      refine r_get m_162 k_162_49 fl_8_38 rfl rfl ?_
      refine r_iload k_162_52 rfl ?_
      refine r_ialdn (k := c) k_162_54 rfl (Or.inl rfl) rfl (by omega) (by decide) ?_
      refine r_goto k_162_55 rfl ?_
      refine r_iadd k_162_59 ?_
      refine r_istore_n k_162_60 rfl ?_
      refine r_iincn k_162_61 rfl (nI_inc c) rfl ?_
      refine r_goto k_162_64 rfl ?_
      have e := ih (c + 1) (by omega)
      rw [show hm_sg (hm_car m hour) (c + 1) = hm_sg (hm_car m hour) c + hm_car m hour c from rfl, show hm_car m hour c = _ by unfold hm_car; rw [if_pos c_34]] at e
      exact e
    · refine r_aload_n k_162_37 rfl ?_
      refine r_iload k_162_38 rfl ?_
      refine r_iconst k_162_40 ci_3 ?_
      refine r_callv3 m_162 k_162_41 cl_8_92 m_122 (by decide) rfl rfl (Nat.le_of_ble_eq_true rfl) (Nat.le_of_ble_eq_true rfl) rfl rfl ?_
      refine s_122 (c := c) (t := 3) (by omega) (by decide) ?_
      refine r_iload_n k_162_44 rfl ?_
      refine r_icmp_ne k_162_45 rfl (fun c_45 => ?_) (fun c_45 => ?_)
      · refine r_iconst k_162_58 ci_0 ?_
        refine r_iadd k_162_59 ?_
        refine r_istore_n k_162_60 rfl ?_
        refine r_iincn k_162_61 rfl (nI_inc c) rfl ?_
        refine r_goto k_162_64 rfl ?_
        have e := ih (c + 1) (by omega)
        rw [show hm_sg (hm_car m hour) (c + 1) = hm_sg (hm_car m hour) c + hm_car m hour c from rfl, show hm_car m hour c = _ by unfold hm_car; rw [if_neg c_34, if_pos c_45]] at e
        exact e
      · have c_45 := Decidable.of_not_not c_45
        refine r_aload_n k_162_48 rfl ?_
        refine r_get m_162 k_162_49 fl_8_38 rfl rfl ?_
        refine r_iload k_162_52 rfl ?_
        refine r_ialdn (k := c) k_162_54 rfl (Or.inl rfl) rfl (by omega) (by decide) ?_
        refine r_goto k_162_55 rfl ?_
        refine r_iadd k_162_59 ?_
        refine r_istore_n k_162_60 rfl ?_
        refine r_iincn k_162_61 rfl (nI_inc c) rfl ?_
        refine r_goto k_162_64 rfl ?_
        have e := ih (c + 1) (by omega)
        rw [show hm_sg (hm_car m hour) (c + 1) = hm_sg (hm_car m hour) c + hm_car m hour c from rfl, show hm_car m hour c = _ by unfold hm_car; rw [if_neg c_34, if_neg (fun z => z c_45)]] at e
        exact e
def op_taken (m : hm_M) (nc : Nat) (hour w : Int32) : Int32 := if (0 ≤ hour.toInt ∧ hour.toInt ≤ 399) then (if w.toInt = 0 then nI (hm_cnt (fun c => decide (m 15 (4 * c + 0) = hour)) nc + hm_cnt (fun c => decide (m 15 (4 * c + 1) = hour)) nc + hm_cnt (fun c => decide (m 15 (4 * c + 2) = hour)) nc + hm_cnt (fun c => decide (m 15 (4 * c + 3) = hour)) nc) else if w.toInt = 1 then nI (hm_cnt (fun c => decide (m 15 (4 * c + 1) = hour)) nc) else if w.toInt = 2 then nI (hm_cnt (fun c => decide (m 15 (4 * c + 2) = hour)) nc) else if w.toInt = 3 then nI (hm_cnt (fun c => decide (¬ m 15 (4 * c + 0) < 0) && decide ((m 15 (4 * c + 0)).toInt ≤ hour.toInt ∧ hour.toInt ≤ (hm_re (m 15 (4 * c + 2)) (m 15 (4 * c + 3))).toInt)) nc) else if w.toInt = 4 then hm_sg (hm_car m hour) nc else if w.toInt = 5 then nI (hm_cnt (fun c => decide (m 15 (4 * c + 0) = hour)) nc + hm_cnt (fun c => decide (m 15 (4 * c + 1) = hour)) nc + hm_cnt (fun c => decide (m 15 (4 * c + 2) = hour)) nc + hm_cnt (fun c => decide (m 15 (4 * c + 3) = hour)) nc) else -1002) else -1002
set_option maxRecDepth 20000 in
theorem s_162 {d n s : Nat} {m : hm_M} {h : Nat → Option va_E} {Q : Option Value → hm_H → Prop} {nc : Nat} (hn : m 9 0 = nI nc) (hnc : nc ≤ 16) {hour w : Int32} (hQ : Q (some (.int (op_taken m nc hour w))) (hm_hM m h n s)) : hm_T (d + 3) 162 0 [.ref 61, .int hour, .int w, .retAddr 0, .retAddr 0] [] (hm_hM m h n s) Q := by
  refine r_iload_n k_162_0 rfl ?_
  refine r_calls1 m_162 k_162_1 cl_8_205 m_146 (by decide) rfl rfl (Nat.le_of_ble_eq_true rfl) (Nat.le_of_ble_eq_true rfl) ?_
  refine s_146 ?_
  refine r_if_ne k_162_4 rfl (fun c_4 => ?_) (fun c_4 => ?_)
  · have c_4 := hm_if1 c_4
    refine r_iconst k_162_11 ci_0 ?_
    refine r_istore_n k_162_12 rfl ?_
    refine r_iconst k_162_13 ci_0 ?_
    refine r_istore k_162_14 rfl ?_
    refine l_162 hn hnc ?_ nc 0 (by omega)
    refine r_iload_n k_162_67 rfl ?_
    by_cases c_68 : w.toInt < 0 ∨ 5 < w.toInt
    · refine r_tableOut k_162_68 c_68 rfl ?_
      refine r_sipush k_162_136 cs_m1002 ?_
      exact hm_T.ret m_162 k_162_139 rfl (by unfold op_taken at hQ; rw [if_pos c_4, if_neg (show ¬ w.toInt = 0 by omega), if_neg (show ¬ w.toInt = 1 by omega), if_neg (show ¬ w.toInt = 2 by omega), if_neg (show ¬ w.toInt = 3 by omega), if_neg (show ¬ w.toInt = 4 by omega), if_neg (show ¬ w.toInt = 5 by omega)] at hQ; exact hQ)
    · have hs_68 : w.toInt = 0 ∨ w.toInt = 1 ∨ w.toInt = 2 ∨ w.toInt = 3 ∨ w.toInt = 4 ∨ w.toInt = 5 := by omega
      rcases hs_68 with hs_68 | hs_68 | hs_68 | hs_68 | hs_68 | hs_68
      · refine r_tableIn k_162_68 c_68 (by rw [hs_68]; rfl) rfl ?_
        refine r_aload_n k_162_108 rfl ?_
        refine r_iload_n k_162_109 rfl ?_
        refine r_callv2 m_162 k_162_110 cl_8_109 m_120 (by decide) rfl rfl (Nat.le_of_ble_eq_true rfl) (Nat.le_of_ble_eq_true rfl) rfl rfl ?_
        refine s_120 hn hnc ?_
        exact hm_T.ret m_162 k_162_113 rfl (by unfold op_taken at hQ; rw [if_pos c_4, if_pos hs_68] at hQ; exact hQ)
      · refine r_tableIn k_162_68 c_68 (by rw [hs_68]; rfl) rfl ?_
        refine r_aload_n k_162_114 rfl ?_
        refine r_iload_n k_162_115 rfl ?_
        refine r_iconst k_162_116 ci_1 ?_
        refine r_callv3 m_162 k_162_117 cl_8_96 m_121 (by decide) rfl rfl (Nat.le_of_ble_eq_true rfl) (Nat.le_of_ble_eq_true rfl) rfl rfl ?_
        refine s_121 (t := 1) hn hnc (by decide) ?_
        exact hm_T.ret m_162 k_162_120 rfl (by unfold op_taken at hQ; rw [if_pos c_4, if_neg (show ¬ w.toInt = 0 by omega), if_pos hs_68] at hQ; exact hQ)
      · refine r_tableIn k_162_68 c_68 (by rw [hs_68]; rfl) rfl ?_
        refine r_aload_n k_162_121 rfl ?_
        refine r_iload_n k_162_122 rfl ?_
        refine r_iconst k_162_123 ci_2 ?_
        refine r_callv3 m_162 k_162_124 cl_8_96 m_121 (by decide) rfl rfl (Nat.le_of_ble_eq_true rfl) (Nat.le_of_ble_eq_true rfl) rfl rfl ?_
        refine s_121 (t := 2) hn hnc (by decide) ?_
        exact hm_T.ret m_162 k_162_127 rfl (by unfold op_taken at hQ; rw [if_pos c_4, if_neg (show ¬ w.toInt = 0 by omega), if_neg (show ¬ w.toInt = 1 by omega), if_pos hs_68] at hQ; exact hQ)
      · refine r_tableIn k_162_68 c_68 (by rw [hs_68]; rfl) rfl ?_
        refine r_aload_n k_162_128 rfl ?_
        refine r_iload_n k_162_129 rfl ?_
        refine r_callv2 m_162 k_162_130 cl_8_112 m_123 (by decide) rfl rfl (Nat.le_of_ble_eq_true rfl) (Nat.le_of_ble_eq_true rfl) rfl rfl ?_
        refine s_123 hn hnc ?_
        exact hm_T.ret m_162 k_162_133 rfl (by unfold op_taken at hQ; rw [if_pos c_4, if_neg (show ¬ w.toInt = 0 by omega), if_neg (show ¬ w.toInt = 1 by omega), if_neg (show ¬ w.toInt = 2 by omega), if_pos hs_68] at hQ; exact hQ)
      · refine r_tableIn k_162_68 c_68 (by rw [hs_68]; rfl) rfl ?_
        refine r_iload_n k_162_134 rfl ?_
        exact hm_T.ret m_162 k_162_135 rfl (by unfold op_taken at hQ; rw [if_pos c_4, if_neg (show ¬ w.toInt = 0 by omega), if_neg (show ¬ w.toInt = 1 by omega), if_neg (show ¬ w.toInt = 2 by omega), if_neg (show ¬ w.toInt = 3 by omega), if_pos hs_68] at hQ; exact hQ)
      · refine r_tableIn k_162_68 c_68 (by rw [hs_68]; rfl) rfl ?_
        refine r_aload_n k_162_108 rfl ?_
        refine r_iload_n k_162_109 rfl ?_
        refine r_callv2 m_162 k_162_110 cl_8_109 m_120 (by decide) rfl rfl (Nat.le_of_ble_eq_true rfl) (Nat.le_of_ble_eq_true rfl) rfl rfl ?_
        refine s_120 hn hnc ?_
        exact hm_T.ret m_162 k_162_113 rfl (by unfold op_taken at hQ; rw [if_pos c_4, if_neg (show ¬ w.toInt = 0 by omega), if_neg (show ¬ w.toInt = 1 by omega), if_neg (show ¬ w.toInt = 2 by omega), if_neg (show ¬ w.toInt = 3 by omega), if_neg (show ¬ w.toInt = 4 by omega), if_pos hs_68] at hQ; exact hQ)
  · have c_4 := hm_if0 (Decidable.of_not_not c_4)
    refine r_sipush k_162_7 cs_m1002 ?_
    exact hm_T.ret m_162 k_162_10 rfl (by unfold op_taken at hQ; rw [if_neg c_4] at hQ; exact hQ)
set_option maxRecDepth 20000 in
theorem l_163 {d n s : Nat} {m : hm_M} {h : Nat → Option va_E} {Q : Option Value → hm_H → Prop} {nc : Nat} (hn : m 9 0 = nI nc) (hnc : nc ≤ 16) {w : Int32} {va : Value} (hK : hm_T d 163 37 [.ref 61, .int w, .int (nI (hm_cnt (fun k => decide (¬ m 15 k < 0)) (4 * nc))), .int (nI (4 * nc)), va] [] (hm_hM m h n s) Q) : ∀ (k c : Nat), c + k = 4 * nc → hm_T d 163 4 [.ref 61, .int w, .int (nI (hm_cnt (fun k => decide (¬ m 15 k < 0)) c)), .int (nI c), va] [] (hm_hM m h n s) Q := by
  intro k
  induction k with
  | zero =>
    intro c hj
    refine r_iload_n k_163_4 rfl ?_
    refine r_iconst k_163_5 ci_4 ?_
    refine r_aload_n k_163_6 rfl ?_
    refine r_get m_163 k_163_7 fl_8_81 rfl rfl ?_
    rw [hn]
    refine r_imul k_163_10 ?_
    rw [nI_mul]
    refine r_icmp_ge k_163_11 rfl (fun c_11 => ?_) (fun z => absurd (nI_le (show 4 * nc ≤ c by omega) (by omega)) z)
    rw [show c = 4 * nc by omega]
    exact hK
  | succ k ih =>
    intro c hj
    refine r_iload_n k_163_4 rfl ?_
    refine r_iconst k_163_5 ci_4 ?_
    refine r_aload_n k_163_6 rfl ?_
    refine r_get m_163 k_163_7 fl_8_81 rfl rfl ?_
    rw [hn]
    refine r_imul k_163_10 ?_
    rw [nI_mul]
    refine r_icmp_ge k_163_11 rfl (fun z => absurd z (nI_ge (show c < 4 * nc by omega) (by omega))) (fun c_11 => ?_)
    refine r_iload_n k_163_14 rfl ?_
    refine r_aload_n k_163_15 rfl ?_
    refine r_get m_163 k_163_16 fl_8_47 rfl rfl ?_
    refine r_iload_n k_163_19 rfl ?_
    refine r_ialdn (k := c) k_163_20 rfl (Or.inl rfl) rfl (by omega) (by decide) ?_
    refine r_if_lt k_163_21 rfl (fun c_21 => ?_) (fun c_21 => ?_)
    · refine r_iconst k_163_28 ci_0 ?_
      refine r_iadd k_163_29 ?_
      refine r_istore_n k_163_30 rfl ?_
      refine r_iincn k_163_31 rfl (nI_inc c) rfl ?_
      refine r_goto k_163_34 rfl ?_
      have e := ih (c + 1) (by omega)
      rw [hm_cnt_n (P := (fun k => decide (¬ m 15 k < 0))) (decide_eq_false (fun z => z c_21))] at e
      exact e
    · refine r_iconst k_163_24 ci_1 ?_
      refine r_goto k_163_25 rfl ?_
      refine r_iadd k_163_29 ?_
      refine r_istore_n k_163_30 rfl ?_
      refine r_iincn k_163_31 rfl (nI_inc c) rfl ?_
      refine r_goto k_163_34 rfl ?_
      have e := ih (c + 1) (by omega)
      rw [hm_cnt_y (P := (fun k => decide (¬ m 15 k < 0))) (decide_eq_true c_21)] at e
      exact e
set_option maxRecDepth 20000 in
theorem l_163b {d n s : Nat} {m : hm_M} {h : Nat → Option va_E} {Q : Option Value → hm_H → Prop} {np : Nat} (hp : m 18 0 = nI np) (hp16 : np ≤ 16) {w x : Int32} (hK : hm_T d 163 67 [.ref 61, .int w, .int x, .int (hm_sg (m 22) np), .int (nI np)] [] (hm_hM m h n s) Q) : ∀ (k c : Nat), c + k = np → hm_T d 163 42 [.ref 61, .int w, .int x, .int (hm_sg (m 22) c), .int (nI c)] [] (hm_hM m h n s) Q := by
  intro k
  induction k with
  | zero =>
    intro c hj
    refine r_iload k_163_42 rfl ?_
    refine r_aload_n k_163_44 rfl ?_
    refine r_get m_163 k_163_45 fl_8_232 rfl rfl ?_
    rw [hp]
    refine r_icmp_ge k_163_48 rfl (fun c_48 => ?_) (fun z => absurd (nI_le (show np ≤ c by omega) (by omega)) z)
    rw [show c = np by omega]
    exact hK
  | succ k ih =>
    intro c hj
    refine r_iload k_163_42 rfl ?_
    refine r_aload_n k_163_44 rfl ?_
    refine r_get m_163 k_163_45 fl_8_232 rfl rfl ?_
    rw [hp]
    refine r_icmp_ge k_163_48 rfl (fun z => absurd z (nI_ge (show c < np by omega) (by omega))) (fun c_48 => ?_)
    refine r_iload_n k_163_51 rfl ?_
    refine r_aload_n k_163_52 rfl ?_
    refine r_get m_163 k_163_53 fl_8_63 rfl rfl ?_
    refine r_iload k_163_56 rfl ?_
    refine r_ialdn (k := c) k_163_58 rfl (Or.inl rfl) rfl (by omega) (by decide) ?_
    refine r_iadd k_163_59 ?_
    refine r_istore_n k_163_60 rfl ?_
    refine r_iincn k_163_61 rfl (nI_inc c) rfl ?_
    refine r_goto k_163_64 rfl ?_
    exact ih (c + 1) (by omega)
def op_count (m : hm_M) (nc np : Nat) (w : Int32) : Int32 := if w.toInt = 0 then m 9 0 else if w.toInt = 1 then m 2 0 else if w.toInt = 2 then nI (hm_cnt (fun k => decide (¬ m 15 k < 0)) (4 * nc)) else if w.toInt = 3 then m 17 0 else if w.toInt = 4 then m 7 0 else if w.toInt = 5 then m 18 0 else if w.toInt = 6 then hm_sg (m 20) np else if w.toInt = 7 then hm_sg (m 22) np else if w.toInt = 8 then m 0 0 else if w.toInt = 9 then m 0 1 else if w.toInt = 10 then m 0 2 else -1002
set_option maxRecDepth 20000 in
theorem s_163 {d n s : Nat} {m : hm_M} {h : Nat → Option va_E} {Q : Option Value → hm_H → Prop} {nc : Nat} (hn : m 9 0 = nI nc) (hnc : nc ≤ 16) {np : Nat} (hp : m 18 0 = nI np) (hp16 : np ≤ 16) {w : Int32} (hQ : Q (some (.int (op_count m nc np w))) (hm_hM m h n s)) : hm_T (d + 1) 163 0 [.ref 61, .int w, .retAddr 0, .retAddr 0, .retAddr 0] [] (hm_hM m h n s) Q := by
  refine r_iconst k_163_0 ci_0 ?_
  refine r_istore_n k_163_1 rfl ?_
  refine r_iconst k_163_2 ci_0 ?_
  refine r_istore_n k_163_3 rfl ?_
  refine l_163 hn hnc ?_ (4 * nc) 0 (by omega)
  refine r_iconst k_163_37 ci_0 ?_
  refine r_istore_n k_163_38 rfl ?_
  refine r_iconst k_163_39 ci_0 ?_
  refine r_istore k_163_40 rfl ?_
  refine l_163b hp hp16 ?_ np 0 (by omega)
  refine r_iload_n k_163_67 rfl ?_
  by_cases c_68 : w.toInt < 0 ∨ 10 < w.toInt
  · refine r_tableOut k_163_68 c_68 rfl ?_
    refine r_sipush k_163_183 cs_m1002 ?_
    exact hm_T.ret m_163 k_163_186 rfl (by unfold op_count at hQ; rw [if_neg (show ¬ w.toInt = 0 by omega), if_neg (show ¬ w.toInt = 1 by omega), if_neg (show ¬ w.toInt = 2 by omega), if_neg (show ¬ w.toInt = 3 by omega), if_neg (show ¬ w.toInt = 4 by omega), if_neg (show ¬ w.toInt = 5 by omega), if_neg (show ¬ w.toInt = 6 by omega), if_neg (show ¬ w.toInt = 7 by omega), if_neg (show ¬ w.toInt = 8 by omega), if_neg (show ¬ w.toInt = 9 by omega), if_neg (show ¬ w.toInt = 10 by omega)] at hQ; exact hQ)
  · have hs_68 : w.toInt = 0 ∨ w.toInt = 1 ∨ w.toInt = 2 ∨ w.toInt = 3 ∨ w.toInt = 4 ∨ w.toInt = 5 ∨ w.toInt = 6 ∨ w.toInt = 7 ∨ w.toInt = 8 ∨ w.toInt = 9 ∨ w.toInt = 10 := by omega
    rcases hs_68 with hs_68 | hs_68 | hs_68 | hs_68 | hs_68 | hs_68 | hs_68 | hs_68 | hs_68 | hs_68 | hs_68
    · refine r_tableIn k_163_68 c_68 (by rw [hs_68]; rfl) rfl ?_
      refine r_aload_n k_163_128 rfl ?_
      refine r_get m_163 k_163_129 fl_8_81 rfl rfl ?_
      exact hm_T.ret m_163 k_163_132 rfl (by unfold op_count at hQ; rw [if_pos hs_68] at hQ; exact hQ)
    · refine r_tableIn k_163_68 c_68 (by rw [hs_68]; rfl) rfl ?_
      refine r_aload_n k_163_133 rfl ?_
      refine r_get m_163 k_163_134 fl_8_124 rfl rfl ?_
      exact hm_T.ret m_163 k_163_137 rfl (by unfold op_count at hQ; rw [if_neg (show ¬ w.toInt = 0 by omega), if_pos hs_68] at hQ; exact hQ)
    · refine r_tableIn k_163_68 c_68 (by rw [hs_68]; rfl) rfl ?_
      refine r_iload_n k_163_138 rfl ?_
      exact hm_T.ret m_163 k_163_139 rfl (by unfold op_count at hQ; rw [if_neg (show ¬ w.toInt = 0 by omega), if_neg (show ¬ w.toInt = 1 by omega), if_pos hs_68] at hQ; exact hQ)
    · refine r_tableIn k_163_68 c_68 (by rw [hs_68]; rfl) rfl ?_
      refine r_aload_n k_163_140 rfl ?_
      refine r_get m_163 k_163_141 fl_8_210 rfl rfl ?_
      exact hm_T.ret m_163 k_163_144 rfl (by unfold op_count at hQ; rw [if_neg (show ¬ w.toInt = 0 by omega), if_neg (show ¬ w.toInt = 1 by omega), if_neg (show ¬ w.toInt = 2 by omega), if_pos hs_68] at hQ; exact hQ)
    · refine r_tableIn k_163_68 c_68 (by rw [hs_68]; rfl) rfl ?_
      refine r_aload_n k_163_145 rfl ?_
      refine r_get m_163 k_163_146 fl_8_127 rfl rfl ?_
      exact hm_T.ret m_163 k_163_149 rfl (by unfold op_count at hQ; rw [if_neg (show ¬ w.toInt = 0 by omega), if_neg (show ¬ w.toInt = 1 by omega), if_neg (show ¬ w.toInt = 2 by omega), if_neg (show ¬ w.toInt = 3 by omega), if_pos hs_68] at hQ; exact hQ)
    · refine r_tableIn k_163_68 c_68 (by rw [hs_68]; rfl) rfl ?_
      refine r_aload_n k_163_150 rfl ?_
      refine r_get m_163 k_163_151 fl_8_232 rfl rfl ?_
      exact hm_T.ret m_163 k_163_154 rfl (by unfold op_count at hQ; rw [if_neg (show ¬ w.toInt = 0 by omega), if_neg (show ¬ w.toInt = 1 by omega), if_neg (show ¬ w.toInt = 2 by omega), if_neg (show ¬ w.toInt = 3 by omega), if_neg (show ¬ w.toInt = 4 by omega), if_pos hs_68] at hQ; exact hQ)
    · refine r_tableIn k_163_68 c_68 (by rw [hs_68]; rfl) rfl ?_
      refine r_aload_n k_163_155 rfl ?_
      refine r_callv1 m_163 k_163_156 cl_8_235 m_164 (by decide) rfl rfl (Nat.le_of_ble_eq_true rfl) (Nat.le_of_ble_eq_true rfl) rfl rfl ?_
      refine s_164 hp hp16 ?_
      exact hm_T.ret m_163 k_163_159 rfl (by unfold op_count at hQ; rw [if_neg (show ¬ w.toInt = 0 by omega), if_neg (show ¬ w.toInt = 1 by omega), if_neg (show ¬ w.toInt = 2 by omega), if_neg (show ¬ w.toInt = 3 by omega), if_neg (show ¬ w.toInt = 4 by omega), if_neg (show ¬ w.toInt = 5 by omega), if_pos hs_68] at hQ; exact hQ)
    · refine r_tableIn k_163_68 c_68 (by rw [hs_68]; rfl) rfl ?_
      refine r_iload_n k_163_160 rfl ?_
      exact hm_T.ret m_163 k_163_161 rfl (by unfold op_count at hQ; rw [if_neg (show ¬ w.toInt = 0 by omega), if_neg (show ¬ w.toInt = 1 by omega), if_neg (show ¬ w.toInt = 2 by omega), if_neg (show ¬ w.toInt = 3 by omega), if_neg (show ¬ w.toInt = 4 by omega), if_neg (show ¬ w.toInt = 5 by omega), if_neg (show ¬ w.toInt = 6 by omega), if_pos hs_68] at hQ; exact hQ)
    · refine r_tableIn k_163_68 c_68 (by rw [hs_68]; rfl) rfl ?_
      refine r_aload_n k_163_162 rfl ?_
      refine r_get m_163 k_163_163 fl_8_7 rfl rfl ?_
      refine r_iconst k_163_166 ci_0 ?_
      refine r_ialdn (k := 0) k_163_167 rfl (Or.inl rfl) rfl (by decide) (by decide) ?_
      exact hm_T.ret m_163 k_163_168 rfl (by unfold op_count at hQ; rw [if_neg (show ¬ w.toInt = 0 by omega), if_neg (show ¬ w.toInt = 1 by omega), if_neg (show ¬ w.toInt = 2 by omega), if_neg (show ¬ w.toInt = 3 by omega), if_neg (show ¬ w.toInt = 4 by omega), if_neg (show ¬ w.toInt = 5 by omega), if_neg (show ¬ w.toInt = 6 by omega), if_neg (show ¬ w.toInt = 7 by omega), if_pos hs_68] at hQ; exact hQ)
    · refine r_tableIn k_163_68 c_68 (by rw [hs_68]; rfl) rfl ?_
      refine r_aload_n k_163_169 rfl ?_
      refine r_get m_163 k_163_170 fl_8_7 rfl rfl ?_
      refine r_iconst k_163_173 ci_1 ?_
      refine r_ialdn (k := 1) k_163_174 rfl (Or.inl rfl) rfl (by decide) (by decide) ?_
      exact hm_T.ret m_163 k_163_175 rfl (by unfold op_count at hQ; rw [if_neg (show ¬ w.toInt = 0 by omega), if_neg (show ¬ w.toInt = 1 by omega), if_neg (show ¬ w.toInt = 2 by omega), if_neg (show ¬ w.toInt = 3 by omega), if_neg (show ¬ w.toInt = 4 by omega), if_neg (show ¬ w.toInt = 5 by omega), if_neg (show ¬ w.toInt = 6 by omega), if_neg (show ¬ w.toInt = 7 by omega), if_neg (show ¬ w.toInt = 8 by omega), if_pos hs_68] at hQ; exact hQ)
    · refine r_tableIn k_163_68 c_68 (by rw [hs_68]; rfl) rfl ?_
      refine r_aload_n k_163_176 rfl ?_
      refine r_get m_163 k_163_177 fl_8_7 rfl rfl ?_
      refine r_iconst k_163_180 ci_2 ?_
      refine r_ialdn (k := 2) k_163_181 rfl (Or.inl rfl) rfl (by decide) (by decide) ?_
      exact hm_T.ret m_163 k_163_182 rfl (by unfold op_count at hQ; rw [if_neg (show ¬ w.toInt = 0 by omega), if_neg (show ¬ w.toInt = 1 by omega), if_neg (show ¬ w.toInt = 2 by omega), if_neg (show ¬ w.toInt = 3 by omega), if_neg (show ¬ w.toInt = 4 by omega), if_neg (show ¬ w.toInt = 5 by omega), if_neg (show ¬ w.toInt = 6 by omega), if_neg (show ¬ w.toInt = 7 by omega), if_neg (show ¬ w.toInt = 8 by omega), if_neg (show ¬ w.toInt = 9 by omega), if_pos hs_68] at hQ; exact hQ)
/-- a night's growth -/
def hm_gr (t r : Int32) : Int32 := if (lg_cmp (t.toInt64 + t.toInt64 * r.toInt64 / 10000) 100000000) ≤ 0 then (t.toInt64 + t.toInt64 * r.toInt64 / 10000).toInt32 else (100000000 : Int64).toInt32
def hm_ngt : Nat → Nat → hm_M → hm_M
  | 0, _, m => m
  | k + 1, j, m => hm_ngt k (j + 1) (hm_uM m 20 (upd (m 20) j (hm_gr (m 20 j) (m 23 0))))
def hm_ngs (np : Nat) : Nat → hm_M → hm_M
  | 0, m => m
  | k + 1, m => hm_ngs np k (hm_ngt np 0 m)
theorem hm_ngt_o {y i : Nat} (hy : ¬ y = 20) : ∀ (k j : Nat) (m : hm_M), hm_ngt k j m y i = m y i := by
  intro k
  induction k with
  | zero => intro j m; rfl
  | succ k ih =>
    intro j m
    show hm_ngt k (j + 1) _ y i = _
    rw [ih]
    show (if y = 20 then _ else m y) i = m y i
    rw [if_neg hy]
theorem hm_ngs_o {np y i : Nat} (hy : ¬ y = 20) : ∀ (k : Nat) (m : hm_M), hm_ngs np k m y i = m y i := by
  intro k
  induction k with
  | zero => intro m; rfl
  | succ k ih =>
    intro m
    show hm_ngs np k _ y i = _
    rw [ih, hm_ngt_o hy]
set_option maxRecDepth 20000 in
theorem l_169 {d n s : Nat} {h : Nat → Option va_E} {Q : Option Value → hm_H → Prop} {x y : Int32} {np : Nat} (hp16 : np ≤ 16) : ∀ (k c : Nat) (m : hm_M) (va vb : Value), va.category ≤ 2 → m 18 0 = nI np → c + k = np → (∀ va vb : Value, va.category ≤ 2 → hm_T d 169 90 [.ref 61, .int x, .int y, .int (nI np), va, vb] [] (hm_hM (hm_ngt k c m) h n s) Q) → hm_T d 169 25 [.ref 61, .int x, .int y, .int (nI c), va, vb] [] (hm_hM m h n s) Q := by
  intro k
  induction k with
  | zero =>
    intro c m va vb hva hp hj hK
    refine r_iload_n k_169_25 rfl ?_
    refine r_aload_n k_169_26 rfl ?_
    refine r_get m_169 k_169_27 fl_8_232 rfl rfl ?_
    rw [hp]
    refine r_icmp_ge k_169_30 rfl (fun c_30 => ?_) (fun z => absurd (nI_le (show np ≤ c by omega) (by omega)) z)
    rw [show c = np by omega]
    exact hK va vb hva
  | succ k ih =>
    intro c m va vb hva hp hj hK
    refine r_iload_n k_169_25 rfl ?_
    refine r_aload_n k_169_26 rfl ?_
    refine r_get m_169 k_169_27 fl_8_232 rfl rfl ?_
    rw [hp]
    refine r_icmp_ge k_169_30 rfl (fun z => absurd z (nI_ge (show c < np by omega) (by omega))) (fun c_30 => ?_)
    refine r_aload_n k_169_33 rfl ?_
    refine r_get m_169 k_169_34 fl_8_57 rfl rfl ?_
    refine r_iload_n k_169_37 rfl ?_
    refine r_ialdn (k := c) k_169_38 rfl (Or.inl rfl) rfl (by omega) (by decide) ?_
    refine r_i2l k_169_39 ?_
    refine r_aload_n k_169_40 rfl ?_
    refine r_get m_169 k_169_41 fl_8_57 rfl rfl ?_
    refine r_iload_n k_169_44 rfl ?_
    refine r_ialdn (k := c) k_169_45 rfl (Or.inl rfl) rfl (by omega) (by decide) ?_
    refine r_i2l k_169_46 ?_
    refine r_aload_n k_169_47 rfl ?_
    refine r_get m_169 k_169_48 fl_8_246 rfl rfl ?_
    refine r_i2l k_169_51 ?_
    refine r_lmul k_169_52 ?_
    refine r_ldc2_w m_169 k_169_53 ll_8_251 ?_
    refine r_ldiv k_169_56 (by decide) ?_
    refine r_ladd k_169_57 ?_
    refine r_lstore k_169_58 rfl ?_
    refine r_aload_n k_169_60 rfl ?_
    refine r_get m_169 k_169_61 fl_8_57 rfl rfl ?_
    refine r_iload_n k_169_64 rfl ?_
    refine r_lload k_169_65 rfl ?_
    refine r_ldc2_w m_169 k_169_67 ll_8_253 ?_
    refine r_lcmp k_169_70 ?_
    refine r_if_le k_169_71 rfl (fun c_71 => ?_) (fun c_71 => ?_)
    · refine r_lload k_169_80 rfl ?_
      refine r_l2i k_169_82 ?_
      refine r_iastn (k := c) k_169_83 rfl rfl rfl (by omega) (by decide) (wM_20 _) ?_
      refine r_iincn k_169_84 rfl (nI_inc c) rfl ?_
      refine r_goto k_169_87 rfl ?_
      refine ih (c + 1) _ _ _ (Nat.le_refl 2) hp (by omega) ?_
      intro va vb hva
      have e := hK va vb hva
      rw [show hm_ngt (k + 1) c m = hm_ngt k (c + 1) (hm_uM m 20 (upd (m 20) c (hm_gr (m 20 c) (m 23 0)))) from rfl, hm_gr, if_pos c_71] at e
      exact e
    · refine r_ldc2_w m_169 k_169_74 ll_8_253 ?_
      refine r_goto k_169_77 rfl ?_
      refine r_l2i k_169_82 ?_
      refine r_iastn (k := c) k_169_83 rfl rfl rfl (by omega) (by decide) (wM_20 _) ?_
      refine r_iincn k_169_84 rfl (nI_inc c) rfl ?_
      refine r_goto k_169_87 rfl ?_
      refine ih (c + 1) _ _ _ (Nat.le_refl 2) hp (by omega) ?_
      intro va vb hva
      have e := hK va vb hva
      rw [show hm_ngt (k + 1) c m = hm_ngt k (c + 1) (hm_uM m 20 (upd (m 20) c (hm_gr (m 20 c) (m 23 0)))) from rfl, hm_gr, if_neg c_71] at e
      exact e
