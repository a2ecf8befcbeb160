set_option maxRecDepth 20000 in
theorem s_44 {d : Nat} {hp : hm_H} {Q : Option Value → hm_H → Prop} {i N : Nat} (hi : i < N) (hN : N < 2 ^ 31) (hQ : Q (some (.int (nI i))) hp) : hm_T d 44 0 [.int (nI i), .int (nI N), .null] [] hp Q := by
  refine r_iload_n k_44_0 rfl ?_
  refine r_if_lt k_44_1 rfl (fun z => absurd z (nI_pos (by omega))) (fun c_1 => ?_)
  refine r_iload_n k_44_4 rfl ?_
  refine r_iload_n k_44_5 rfl ?_
  refine r_icmp_lt k_44_6 rfl (fun c_6 => ?_) (fun z => absurd (nI_lt hi hN) z)
  refine r_iload_n k_44_16 rfl ?_
  exact hm_T.ret m_44 k_44_17 rfl hQ
set_option maxRecDepth 20000 in
theorem s_43 {d : Nat} {hp : hm_H} {Q : Option Value → hm_H → Prop} {i N : Nat} (hi : i < N) (hN : N < 2 ^ 31) (hQ : Q (some (.int (nI i))) hp) : hm_T (d + 1) 43 0 [.int (nI i), .int (nI N)] [] hp Q := by
  refine r_iload_n k_43_0 rfl ?_
  refine r_iload_n k_43_1 rfl ?_
  refine r_null k_43_2 ?_
  refine r_calls3 m_43 k_43_3 cl_15_105 m_44 (by decide) rfl rfl (Nat.le_of_ble_eq_true rfl) (Nat.le_of_ble_eq_true rfl) ?_
  refine s_44 hi hN ?_
  exact hm_T.ret m_43 k_43_6 rfl hQ
theorem hm_l1c {k : hm_M} {ad : hm_AD} {g : Nat → Nat × Nat} {nc np n : Nat} {h : Nat → Option va_E} (X : hm_D k ad g nc np n h) {c : Nat} (hc : c < nc) : (c < ad 3 1 ∧ ad 3 1 < 2 ^ 31) ∧ va_rf (hm_la (ad 3) (ad 1) c) = .ref (ad 1 c) := by
  rcases X.l1 with h1 | h1
  · omega
  · refine ⟨by omega, ?_⟩
    show va_rf (if c < ad 3 2 then some (ad 1 c) else none) = _
    rw [if_pos (by omega)]
    rfl
theorem hm_l2c {k : hm_M} {ad : hm_AD} {g : Nat → Nat × Nat} {nc np n : Nat} {h : Nat → Option va_E} (X : hm_D k ad g nc np n h) {q : Nat} (hq : q < np) : (q < ad 4 1 ∧ ad 4 1 < 2 ^ 31) ∧ va_rf (hm_la (ad 4) (ad 2) q) = .ref (ad 2 q) := by
  rcases X.l2 with h1 | h1
  · omega
  · refine ⟨by omega, ?_⟩
    show va_rf (if q < ad 4 2 then some (ad 2 q) else none) = _
    rw [if_pos (by omega)]
    rfl
set_option maxRecDepth 20000 in
theorem s_41c {d n s : Nat} {k : hm_M} {ad : hm_AD} {g : Nat → Nat × Nat} {w : hm_W} {nc np : Nat} {h : Nat → Option va_E} {Q : Option Value → hm_H → Prop} (X : hm_D k ad g nc np n h) (hQ : Q (some (.int (nI nc))) (hm_hC k ad w h n s)) : hm_T d 41 0 [.ref 35] [] (hm_hC k ad w h n s) Q := by
  refine r_aload_n k_41_0 rfl ?_
  refine r_get m_41 k_41_1 fl_9_48 rfl rfl ?_
  rw [X.nc]
  exact hm_T.ret m_41 k_41_4 rfl hQ
set_option maxRecDepth 20000 in
theorem s_45c {d n s : Nat} {k : hm_M} {ad : hm_AD} {g : Nat → Nat × Nat} {w : hm_W} {nc np : Nat} {h : Nat → Option va_E} {Q : Option Value → hm_H → Prop} (X : hm_D k ad g nc np n h) {c : Nat} (hc : c < nc) (hQ : Q (some (.ref (ad 1 c))) (hm_hC k ad w h n s)) : hm_T d 45 0 [.ref 35, .int (nI c)] [] (hm_hC k ad w h n s) Q := by
  refine r_aload_n k_45_0 rfl ?_
  refine r_get m_45 k_45_1 fl_9_9 rfl rfl ?_
  refine r_iload_n k_45_4 rfl ?_
  refine r_aaldn (k := c) k_45_5 (rD_l1 X (by omega)) (by decide) rfl (hm_l1c X hc).1.1 (hm_l1c X hc).1.2 (hm_l1c X hc).2 ?_
  exact hm_T.ret m_45 k_45_6 rfl hQ
set_option maxRecDepth 20000 in
theorem s_42c {d n s : Nat} {k : hm_M} {ad : hm_AD} {g : Nat → Nat × Nat} {w : hm_W} {nc np : Nat} {h : Nat → Option va_E} {Q : Option Value → hm_H → Prop} (X : hm_D k ad g nc np n h) {c : Nat} (hc : c < nc) (hQ : Q (some (.ref (ad 1 c))) (hm_hC k ad w h n s)) : hm_T (d + 2) 42 0 [.ref 35, .int (nI c)] [] (hm_hC k ad w h n s) Q := by
  have h16 := X.nc16
  refine r_iload_n k_42_0 rfl ?_
  refine r_aload_n k_42_1 rfl ?_
  refine r_get m_42 k_42_2 fl_9_48 rfl rfl ?_
  rw [X.nc]
  refine r_calls2 m_42 k_42_5 cl_9_118 m_43 (by decide) rfl rfl (Nat.le_of_ble_eq_true rfl) (Nat.le_of_ble_eq_true rfl) ?_
  refine s_43 hc (by omega) ?_
  refine r_pop k_42_8 rfl ?_
  refine r_aload_n k_42_9 rfl ?_
  refine r_iload_n k_42_10 rfl ?_
  refine r_callv2 m_42 k_42_11 cl_9_123 m_45 (by decide) rfl rfl (Nat.le_of_ble_eq_true rfl) (Nat.le_of_ble_eq_true rfl) rfl rfl ?_
  refine s_45c X hc ?_
  exact hm_T.ret m_42 k_42_14 rfl hQ
set_option maxRecDepth 20000 in
theorem s_75_bad {d n s : Nat} {k : hm_M} {ad : hm_AD} {g : Nat → Nat × Nat} {w : hm_W} {nc np : Nat} {h : Nat → Option va_E} {Q : Option Value → hm_H → Prop} (X : hm_D k ad g nc np n h) {x : Int32} (hb : ¬ (0 ≤ x.toInt ∧ x.toInt < nc)) (hQ : Q (some .null) (hm_hC k ad w h n s)) : hm_T (d + 3) 75 0 [.ref 4, .int x] [] (hm_hC k ad w h n s) Q := by
  have h16 := X.nc16
  refine r_iload_n k_75_0 rfl ?_
  refine r_iconst k_75_1 ci_0 ?_
  refine r_aload_n k_75_2 rfl ?_
  refine r_get m_75 k_75_3 fl_7_58 rfl rfl ?_
  refine r_callv1 m_75 k_75_6 cl_7_124 m_41 (by decide) rfl rfl (Nat.le_of_ble_eq_true rfl) (Nat.le_of_ble_eq_true rfl) rfl rfl ?_
  refine s_41c X ?_
  refine r_iconst k_75_9 ci_1 ?_
  refine r_isub k_75_10 ?_
  refine r_calls3 m_75 k_75_11 cl_7_78 m_13 (by decide) rfl rfl (Nat.le_of_ble_eq_true rfl) (Nat.le_of_ble_eq_true rfl) ?_
  refine s_13 ?_
  rw [show (nI 0).toInt = 0 by decide +kernel, nI_sub1 nc (by omega), hm_ifc (show (0 ≤ x.toInt ∧ x.toInt ≤ (nc : Int) - 1) ↔ (0 ≤ x.toInt ∧ x.toInt < nc) by omega)]
  rw [if_neg hb]
  refine r_if_eq k_75_14 rfl (fun c_14 => ?_) (fun z => absurd rfl z)
  refine r_null k_75_31 ?_
  exact hm_T.ret m_75 k_75_32 rfl hQ
set_option maxRecDepth 20000 in
theorem s_75 {d n s : Nat} {k : hm_M} {ad : hm_AD} {g : Nat → Nat × Nat} {w : hm_W} {nc np : Nat} {h : Nat → Option va_E} {Q : Option Value → hm_H → Prop} (X : hm_D k ad g nc np n h) {c : Nat} (hc : c < nc) (hQ : Q (some (.ref (ad 1 c))) (hm_hC k ad w h n s)) : hm_T (d + 3) 75 0 [.ref 4, .int (nI c)] [] (hm_hC k ad w h n s) Q := by
  have h16 := X.nc16
  refine r_iload_n k_75_0 rfl ?_
  refine r_iconst k_75_1 ci_0 ?_
  refine r_aload_n k_75_2 rfl ?_
  refine r_get m_75 k_75_3 fl_7_58 rfl rfl ?_
  refine r_callv1 m_75 k_75_6 cl_7_124 m_41 (by decide) rfl rfl (Nat.le_of_ble_eq_true rfl) (Nat.le_of_ble_eq_true rfl) rfl rfl ?_
  refine s_41c X ?_
  refine r_iconst k_75_9 ci_1 ?_
  refine r_isub k_75_10 ?_
  refine r_calls3 m_75 k_75_11 cl_7_78 m_13 (by decide) rfl rfl (Nat.le_of_ble_eq_true rfl) (Nat.le_of_ble_eq_true rfl) ?_
  refine s_13 ?_
  rw [show (nI 0).toInt = 0 by decide +kernel, nI_sub1 nc (by omega), hm_ifc (show (0 ≤ (nI c).toInt ∧ (nI c).toInt ≤ (nc : Int) - 1) ↔ (0 ≤ (nI c).toInt ∧ (nI c).toInt < nc) by omega)]
  rw [if_pos (by rw [nI_toInt (by omega)]; omega)]
  refine r_if_eq k_75_14 rfl (fun z => absurd z (show ¬ (1 : Int32) = 0 by decide)) (fun c_14 => ?_)
  refine r_aload_n k_75_17 rfl ?_
  refine r_get m_75 k_75_18 fl_7_58 rfl rfl ?_
  refine r_iload_n k_75_21 rfl ?_
  refine r_callv2 m_75 k_75_22 cl_7_128 m_42 (by decide) rfl rfl (Nat.le_of_ble_eq_true rfl) (Nat.le_of_ble_eq_true rfl) rfl rfl ?_
  refine s_42c X hc ?_
  refine r_cast m_75 k_75_25 nl_7_132 (rD_1 X hc) ?_
  refine r_goto k_75_28 rfl ?_
  exact hm_T.ret m_75 k_75_32 rfl hQ
set_option maxRecDepth 20000 in
theorem s_41q {d n s : Nat} {k : hm_M} {ad : hm_AD} {g : Nat → Nat × Nat} {w : hm_W} {nc np : Nat} {h : Nat → Option va_E} {Q : Option Value → hm_H → Prop} (X : hm_D k ad g nc np n h) (hQ : Q (some (.int (nI np))) (hm_hC k ad w h n s)) : hm_T d 41 0 [.ref 36] [] (hm_hC k ad w h n s) Q := by
  refine r_aload_n k_41_0 rfl ?_
  refine r_get m_41 k_41_1 fl_9_48 rfl rfl ?_
  rw [X.np]
  exact hm_T.ret m_41 k_41_4 rfl hQ
set_option maxRecDepth 20000 in
theorem s_45q {d n s : Nat} {k : hm_M} {ad : hm_AD} {g : Nat → Nat × Nat} {w : hm_W} {nc np : Nat} {h : Nat → Option va_E} {Q : Option Value → hm_H → Prop} (X : hm_D k ad g nc np n h) {q : Nat} (hq : q < np) (hQ : Q (some (.ref (ad 2 q))) (hm_hC k ad w h n s)) : hm_T d 45 0 [.ref 36, .int (nI q)] [] (hm_hC k ad w h n s) Q := by
  refine r_aload_n k_45_0 rfl ?_
  refine r_get m_45 k_45_1 fl_9_9 rfl rfl ?_
  refine r_iload_n k_45_4 rfl ?_
  refine r_aaldn (k := q) k_45_5 (rD_l2 X (by omega)) (by decide) rfl (hm_l2c X hq).1.1 (hm_l2c X hq).1.2 (hm_l2c X hq).2 ?_
  exact hm_T.ret m_45 k_45_6 rfl hQ
set_option maxRecDepth 20000 in
theorem s_42q {d n s : Nat} {k : hm_M} {ad : hm_AD} {g : Nat → Nat × Nat} {w : hm_W} {nc np : Nat} {h : Nat → Option va_E} {Q : Option Value → hm_H → Prop} (X : hm_D k ad g nc np n h) {q : Nat} (hq : q < np) (hQ : Q (some (.ref (ad 2 q))) (hm_hC k ad w h n s)) : hm_T (d + 2) 42 0 [.ref 36, .int (nI q)] [] (hm_hC k ad w h n s) Q := by
  have h16 := X.np16
  refine r_iload_n k_42_0 rfl ?_
  refine r_aload_n k_42_1 rfl ?_
  refine r_get m_42 k_42_2 fl_9_48 rfl rfl ?_
  rw [X.np]
  refine r_calls2 m_42 k_42_5 cl_9_118 m_43 (by decide) rfl rfl (Nat.le_of_ble_eq_true rfl) (Nat.le_of_ble_eq_true rfl) ?_
  refine s_43 hq (by omega) ?_
  refine r_pop k_42_8 rfl ?_
  refine r_aload_n k_42_9 rfl ?_
  refine r_iload_n k_42_10 rfl ?_
  refine r_callv2 m_42 k_42_11 cl_9_123 m_45 (by decide) rfl rfl (Nat.le_of_ble_eq_true rfl) (Nat.le_of_ble_eq_true rfl) rfl rfl ?_
  refine s_45q X hq ?_
  exact hm_T.ret m_42 k_42_14 rfl hQ
set_option maxRecDepth 20000 in
theorem s_108_bad {d n s : Nat} {k : hm_M} {ad : hm_AD} {g : Nat → Nat × Nat} {w : hm_W} {nc np : Nat} {h : Nat → Option va_E} {Q : Option Value → hm_H → Prop} (X : hm_D k ad g nc np n h) {x : Int32} (hb : ¬ (0 ≤ x.toInt ∧ x.toInt < np)) (hQ : Q (some .null) (hm_hC k ad w h n s)) : hm_T (d + 3) 108 0 [.ref 4, .int x] [] (hm_hC k ad w h n s) Q := by
  have h16 := X.np16
  refine r_iload_n k_108_0 rfl ?_
  refine r_iconst k_108_1 ci_0 ?_
  refine r_aload_n k_108_2 rfl ?_
  refine r_get m_108 k_108_3 fl_7_69 rfl rfl ?_
  refine r_callv1 m_108 k_108_6 cl_7_124 m_41 (by decide) rfl rfl (Nat.le_of_ble_eq_true rfl) (Nat.le_of_ble_eq_true rfl) rfl rfl ?_
  refine s_41q X ?_
  refine r_iconst k_108_9 ci_1 ?_
  refine r_isub k_108_10 ?_
  refine r_calls3 m_108 k_108_11 cl_7_78 m_13 (by decide) rfl rfl (Nat.le_of_ble_eq_true rfl) (Nat.le_of_ble_eq_true rfl) ?_
  refine s_13 ?_
  rw [show (nI 0).toInt = 0 by decide +kernel, nI_sub1 np (by omega), hm_ifc (show (0 ≤ x.toInt ∧ x.toInt ≤ (np : Int) - 1) ↔ (0 ≤ x.toInt ∧ x.toInt < np) by omega)]
  rw [if_neg hb]
  refine r_if_eq k_108_14 rfl (fun c_14 => ?_) (fun z => absurd rfl z)
  refine r_null k_108_31 ?_
  exact hm_T.ret m_108 k_108_32 rfl hQ
set_option maxRecDepth 20000 in
theorem s_108 {d n s : Nat} {k : hm_M} {ad : hm_AD} {g : Nat → Nat × Nat} {w : hm_W} {nc np : Nat} {h : Nat → Option va_E} {Q : Option Value → hm_H → Prop} (X : hm_D k ad g nc np n h) {q : Nat} (hq : q < np) (hQ : Q (some (.ref (ad 2 q))) (hm_hC k ad w h n s)) : hm_T (d + 3) 108 0 [.ref 4, .int (nI q)] [] (hm_hC k ad w h n s) Q := by
  have h16 := X.np16
  refine r_iload_n k_108_0 rfl ?_
  refine r_iconst k_108_1 ci_0 ?_
  refine r_aload_n k_108_2 rfl ?_
  refine r_get m_108 k_108_3 fl_7_69 rfl rfl ?_
  refine r_callv1 m_108 k_108_6 cl_7_124 m_41 (by decide) rfl rfl (Nat.le_of_ble_eq_true rfl) (Nat.le_of_ble_eq_true rfl) rfl rfl ?_
  refine s_41q X ?_
  refine r_iconst k_108_9 ci_1 ?_
  refine r_isub k_108_10 ?_
  refine r_calls3 m_108 k_108_11 cl_7_78 m_13 (by decide) rfl rfl (Nat.le_of_ble_eq_true rfl) (Nat.le_of_ble_eq_true rfl) ?_
  refine s_13 ?_
  rw [show (nI 0).toInt = 0 by decide +kernel, nI_sub1 np (by omega), hm_ifc (show (0 ≤ (nI q).toInt ∧ (nI q).toInt ≤ (np : Int) - 1) ↔ (0 ≤ (nI q).toInt ∧ (nI q).toInt < np) by omega)]
  rw [if_pos (by rw [nI_toInt (by omega)]; omega)]
  refine r_if_eq k_108_14 rfl (fun z => absurd z (show ¬ (1 : Int32) = 0 by decide)) (fun c_14 => ?_)
  refine r_aload_n k_108_17 rfl ?_
  refine r_get m_108 k_108_18 fl_7_69 rfl rfl ?_
  refine r_iload_n k_108_21 rfl ?_
  refine r_callv2 m_108 k_108_22 cl_7_128 m_42 (by decide) rfl rfl (Nat.le_of_ble_eq_true rfl) (Nat.le_of_ble_eq_true rfl) rfl rfl ?_
  refine s_42q X hq ?_
  refine r_cast m_108 k_108_25 nl_7_261 (rD_4 X hq) ?_
  refine r_goto k_108_28 rfl ?_
  exact hm_T.ret m_108 k_108_32 rfl hQ
set_option maxRecDepth 20000 in
theorem s_18 {d n s : Nat} {k : hm_M} {ad : hm_AD} {w : hm_W} {h : Nat → Option va_E} {Q : Option Value → hm_H → Prop} {hh r : Nat} (hr : r < 6) (hh4 : hh < 400) (hQ : Q (some (.int (k (40 + r) hh))) (hm_hC k ad w h n s)) : hm_T d 18 0 [.ref 17, .int (nI hh), .int (nI r)] [] (hm_hC k ad w h n s) Q := by
  refine r_aload_n k_18_0 rfl ?_
  refine r_get m_18 k_18_1 fl_4_11 rfl rfl ?_
  refine r_iload_n k_18_4 rfl ?_
  refine r_aaldn (k := r) k_18_5 rfl (by decide) rfl hr (by decide) (by show va_rf (if r < 6 then some _ else none) = _; rw [if_pos (by omega)]; try rfl) ?_
  refine r_iload_n k_18_6 rfl ?_
  refine r_ialdn (k := hh) k_18_7 (rC_row hr) (Or.inl rfl) rfl hh4 (by decide) ?_
  exact hm_T.ret m_18 k_18_8 rfl hQ
def hm_mx (f : Nat → Int32) : Nat → Nat → Int32 → Int32
  | 0, _, a => a
  | j + 1, i, a => hm_mx f j (i + 1) (if a < f i then f i else a)
set_option maxRecDepth 20000 in
theorem l_14 {d n s : Nat} {k : hm_M} {ad : hm_AD} {w : hm_W} {h : Nat → Option va_E} {Q : Option Value → hm_H → Prop} {r : Nat} (hr : r < 6) : ∀ (j i : Nat) (a : Int32), i + j = 400 → Q (some (.int (hm_mx (k (40 + r)) j i a))) (hm_hC k ad w h n s) → hm_T (d + 1) 14 4 [.ref 17, .int (nI r), .int a, .int (nI i)] [] (hm_hC k ad w h n s) Q := by
  intro j
  induction j with
  | zero =>
    intro i a hi hQ
    refine r_iload_n k_14_4 rfl ?_
    refine r_sipush k_14_5 cs_400 ?_
    refine r_icmp_ge k_14_8 rfl (fun c_8 => ?_) (fun z => absurd (nI_le (show 400 ≤ i by omega) (by omega)) z)
    refine r_iload_n k_14_30 rfl ?_
    exact hm_T.ret m_14 k_14_31 rfl hQ
  | succ j ih =>
    intro i a hi hQ
    refine r_iload_n k_14_4 rfl ?_
    refine r_sipush k_14_5 cs_400 ?_
    refine r_icmp_ge k_14_8 rfl (fun z => absurd z (nI_ge (show i < 400 by omega) (by omega))) (fun c_8 => ?_)
    refine r_iload_n k_14_11 rfl ?_
    refine r_aload_n k_14_12 rfl ?_
    refine r_get m_14 k_14_13 fl_4_11 rfl rfl ?_
    refine r_iload_n k_14_16 rfl ?_
    refine r_aaldn (k := r) k_14_17 rfl (by decide) rfl hr (by decide) (by show va_rf (if r < 6 then some _ else none) = _; rw [if_pos (by omega)]; try rfl) ?_
    refine r_iload_n k_14_18 rfl ?_
    refine r_ialdn (k := i) k_14_19 (rC_row hr) (Or.inl rfl) rfl (by omega) (by decide) ?_
    refine r_calls2 m_14 k_14_20 cl_4_16 m_15 (by decide) rfl rfl (Nat.le_of_ble_eq_true rfl) (Nat.le_of_ble_eq_true rfl) ?_
    refine s_15 ?_
    refine r_istore_n k_14_23 rfl ?_
    refine r_iincn k_14_24 rfl (nI_inc i) rfl ?_
    refine r_goto k_14_27 rfl ?_
    exact ih (i + 1) _ (by omega) hQ
set_option maxRecDepth 20000 in
theorem s_14 {d n s : Nat} {k : hm_M} {ad : hm_AD} {w : hm_W} {h : Nat → Option va_E} {Q : Option Value → hm_H → Prop} {r : Nat} (hr : r < 6) (hQ : Q (some (.int (hm_mx (k (40 + r)) 400 0 (nI 0)))) (hm_hC k ad w h n s)) : hm_T (d + 1) 14 0 [.ref 17, .int (nI r), .retAddr 0, .retAddr 0] [] (hm_hC k ad w h n s) Q := by
  refine r_iconst k_14_0 ci_0 ?_
  refine r_istore_n k_14_1 rfl ?_
  refine r_iconst k_14_2 ci_0 ?_
  refine r_istore_n k_14_3 rfl ?_
  exact l_14 hr 400 0 _ (by omega) hQ
set_option maxRecDepth 20000 in
theorem l_82 {d n s : Nat} {k : hm_M} {ad : hm_AD} {w : hm_W} {h : Nat → Option va_E} {Q : Option Value → hm_H → Prop} {x y : Int32} {e : Nat} (he : e ≤ 400) : ∀ (j i : Nat), i + j = e ∨ (j = 0 ∧ e ≤ i) → i < 2 ^ 30 → Q (some (.int (hm_bi (hm_all (fun i => decide (k 43 i < x)) j i)))) (hm_hC k ad w h n s) → hm_T d 82 3 [.ref 17, .int y, .int (nI e), .int x, .int (nI i)] [] (hm_hC k ad w h n s) Q := by
  intro j
  induction j with
  | zero =>
    intro i hi hi2 hQ
    refine r_iload k_82_3 rfl ?_
    refine r_iload_n k_82_5 rfl ?_
    refine r_icmp_ge k_82_6 rfl (fun c_6 => ?_) (fun z => absurd (nI_le (show e ≤ i by omega) (by omega)) z)
    refine r_iconst k_82_30 ci_1 ?_
    exact hm_T.ret m_82 k_82_31 rfl hQ
  | succ j ih =>
    intro i hi hi2 hQ
    refine r_iload k_82_3 rfl ?_
    refine r_iload_n k_82_5 rfl ?_
    refine r_icmp_ge k_82_6 rfl (fun z => absurd z (nI_ge (show i < e by omega) (by omega))) (fun c_6 => ?_)
    refine r_aload_n k_82_9 rfl ?_
    refine r_get m_82 k_82_10 fl_4_11 rfl rfl ?_
    refine r_iconst k_82_13 ci_3 ?_
    refine r_aaldn (k := 3) k_82_14 rfl (by decide) rfl (by decide) (by decide) rfl ?_
    refine r_iload k_82_15 rfl ?_
    refine r_ialdn (k := i) k_82_17 rfl (Or.inl rfl) rfl (by omega) (by decide) ?_
    refine r_iload_n k_82_18 rfl ?_
    refine r_icmp_lt k_82_19 rfl (fun c_19 => ?_) (fun c_19 => ?_)
    · refine r_iincn k_82_24 rfl (nI_inc i) rfl ?_
      refine r_goto k_82_27 rfl ?_
      refine ih (i + 1) (by omega) (by omega) ?_
      rw [show hm_all (fun i => decide (k 43 i < x)) (j + 1) i = hm_all (fun i => decide (k 43 i < x)) j (i + 1) by show (decide (k 43 i < x) && _) = _; rw [decide_eq_true c_19]; rfl] at hQ
      exact hQ
    · refine r_iconst k_82_22 ci_0 ?_
      exact hm_T.ret m_82 k_82_23 rfl (by rw [show hm_all (fun i => decide (k 43 i < x)) (j + 1) i = false by show (decide (k 43 i < x) && _) = _; rw [decide_eq_false c_19]; rfl] at hQ; exact hQ)
set_option maxRecDepth 20000 in
theorem s_82 {d n s : Nat} {k : hm_M} {ad : hm_AD} {w : hm_W} {h : Nat → Option va_E} {Q : Option Value → hm_H → Prop} {x : Int32} {hh e : Nat} (he : e ≤ 400) (hh4 : hh < 400) (hQ : Q (some (.int (hm_bi (hm_all (fun i => decide (k 43 i < x)) (e - hh) hh)))) (hm_hC k ad w h n s)) : hm_T d 82 0 [.ref 17, .int (nI hh), .int (nI e), .int x, .retAddr 0] [] (hm_hC k ad w h n s) Q := by
  refine r_iload_n k_82_0 rfl ?_
  refine r_istore k_82_1 rfl ?_
  exact l_82 he (e - hh) hh (by omega) (by omega) hQ
set_option maxRecDepth 20000 in
theorem s_50 {d n s : Nat} {k : hm_M} {ad : hm_AD} {w : hm_W} {h : Nat → Option va_E} {Q : Option Value → hm_H → Prop} {q t : Nat} (hq : q < 5) (ht : t < 4) {i : Nat} (hi : i < 5) (hQ : Q (some (.int (k (60 + 4 * q + t) i))) (hm_hC k ad w h n s)) : hm_T d 50 0 [.ref (hm_lb q), .int (nI t), .int (nI i)] [] (hm_hC k ad w h n s) Q := by
  refine r_aload_n k_50_0 rfl ?_
  refine r_get m_50 k_50_1 fl_2_11 (rC_l0 hq) rfl ?_
  refine r_iload_n k_50_4 rfl ?_
  refine r_aaldn (k := t) k_50_5 (rC_l1 hq) (by decide) rfl ht (by decide) (by show va_rf (if t < 4 then some _ else none) = _; rw [if_pos ht]; try rfl) ?_
  refine r_iload_n k_50_6 rfl ?_
  refine r_ialdn (k := i) k_50_7 (rC_l2 hq ht) (Or.inl rfl) rfl hi (by decide) ?_
  exact hm_T.ret m_50 k_50_8 rfl hQ
set_option maxRecDepth 20000 in
theorem s_36 {d n s : Nat} {k : hm_M} {ad : hm_AD} {w : hm_W} {h : Nat → Option va_E} {Q : Option Value → hm_H → Prop} {q t : Nat} (hq : q < 5) (ht : t < 4) {i : Nat} {x : Int32} (hi : i < 5) (hQ : Q none (hm_hC (hm_uM k (60 + 4 * q + t) (upd (k (60 + 4 * q + t)) i x)) ad w h n s)) : hm_T d 36 0 [.ref (hm_lb q), .int (nI t), .int (nI i), .int x] [] (hm_hC k ad w h n s) Q := by
  refine r_aload_n k_36_0 rfl ?_
  refine r_get m_36 k_36_1 fl_2_11 (rC_l0 hq) rfl ?_
  refine r_iload_n k_36_4 rfl ?_
  refine r_aaldn (k := t) k_36_5 (rC_l1 hq) (by decide) rfl ht (by decide) (by show va_rf (if t < 4 then some _ else none) = _; rw [if_pos ht]; try rfl) ?_
  refine r_iload_n k_36_6 rfl ?_
  refine r_iload_n k_36_7 rfl ?_
  refine r_iastn (k := i) k_36_8 (rC_l2 hq ht) rfl rfl hi (by decide) (wC_law hq ht _) ?_
  exact hm_T.ret m_36 k_36_9 rfl hQ
set_option maxRecDepth 20000 in
theorem s_37 {d n s : Nat} {k : hm_M} {ad : hm_AD} {w : hm_W} {h : Nat → Option va_E} {Q : Option Value → hm_H → Prop} {q t : Nat} (hq : q < 5) (ht : t < 4) {i : Nat} {x : Int32} (hi : i < 5) (hQ : Q none (hm_hC (hm_uM k (60 + 4 * q + t) (upd (k (60 + 4 * q + t)) i (k (60 + 4 * q + t) i ||| nI 1 <<< (x &&& 31)))) ad w h n s)) : hm_T d 37 0 [.ref (hm_lb q), .int (nI t), .int (nI i), .int x] [] (hm_hC k ad w h n s) Q := by
  refine r_aload_n k_37_0 rfl ?_
  refine r_get m_37 k_37_1 fl_2_11 (rC_l0 hq) rfl ?_
  refine r_iload_n k_37_4 rfl ?_
  refine r_aaldn (k := t) k_37_5 (rC_l1 hq) (by decide) rfl ht (by decide) (by show va_rf (if t < 4 then some _ else none) = _; rw [if_pos ht]; try rfl) ?_
  refine r_iload_n k_37_6 rfl ?_
  refine r_dup2 k_37_7 rfl rfl ?_
  refine r_ialdn (k := i) k_37_8 (rC_l2 hq ht) (Or.inl rfl) rfl hi (by decide) ?_
  refine r_iconst k_37_9 ci_1 ?_
  refine r_iload_n k_37_10 rfl ?_
  refine r_ishl k_37_11 ?_
  refine r_ior k_37_12 ?_
  refine r_iastn (k := i) k_37_13 (rC_l2 hq ht) rfl rfl hi (by decide) (wC_law hq ht _) ?_
  exact hm_T.ret m_37 k_37_14 rfl hQ
def hm_wb (a b x : Int32) : Bool := decide ((a = -1 ∨ x ≤ a) ∧ (b = -1 ∨ b ≤ x))
set_option maxRecDepth 20000 in
theorem s_52 {d n s : Nat} {k : hm_M} {ad : hm_AD} {w : hm_W} {h : Nat → Option va_E} {Q : Option Value → hm_H → Prop} {q t : Nat} (hq : q < 5) (ht : t < 4) {x : Int32} (hQ : Q (some (.int (hm_bi (hm_wb (k (60 + 4 * q + t) 1) (k (60 + 4 * q + t) 2) x)))) (hm_hC k ad w h n s)) : hm_T d 52 0 [.ref (hm_lb q), .int (nI t), .int x, .retAddr 0, .retAddr 0] [] (hm_hC k ad w h n s) Q := by
  refine r_aload_n k_52_0 rfl ?_
  refine r_get m_52 k_52_1 fl_2_11 (rC_l0 hq) rfl ?_
  refine r_iload_n k_52_4 rfl ?_
  refine r_aaldn (k := t) k_52_5 (rC_l1 hq) (by decide) rfl ht (by decide) (by show va_rf (if t < 4 then some _ else none) = _; rw [if_pos ht]; try rfl) ?_
  refine r_iconst k_52_6 ci_1 ?_
  refine r_ialdn (k := 1) k_52_7 (rC_l2 hq ht) (Or.inl rfl) rfl (by decide) (by decide) ?_
  refine r_istore_n k_52_8 rfl ?_
  refine r_aload_n k_52_9 rfl ?_
  refine r_get m_52 k_52_10 fl_2_11 (rC_l0 hq) rfl ?_
  refine r_iload_n k_52_13 rfl ?_
  refine r_aaldn (k := t) k_52_14 (rC_l1 hq) (by decide) rfl ht (by decide) (by show va_rf (if t < 4 then some _ else none) = _; rw [if_pos ht]; try rfl) ?_
  refine r_iconst k_52_15 ci_2 ?_
  refine r_ialdn (k := 2) k_52_16 (rC_l2 hq ht) (Or.inl rfl) rfl (by decide) (by decide) ?_
  refine r_istore k_52_17 rfl ?_
  refine r_iload_n k_52_19 rfl ?_
  refine r_iconst k_52_20 ci_m1 ?_
  refine r_icmp_eq k_52_21 rfl (fun c_21 => ?_) (fun c_21 => ?_)
  · refine r_iload k_52_29 rfl ?_
    refine r_iconst k_52_31 ci_m1 ?_
    refine r_icmp_eq k_52_32 rfl (fun c_32 => ?_) (fun c_32 => ?_)
    · refine r_iconst k_52_41 ci_1 ?_
      refine r_goto k_52_42 rfl ?_
      exact hm_T.ret m_52 k_52_46 rfl (by rw [show hm_wb (k (60 + 4 * q + t) 1) (k (60 + 4 * q + t) 2) x = true from decide_eq_true ⟨Or.inl c_21, Or.inl c_32⟩] at hQ; exact hQ)
    · refine r_iload_n k_52_35 rfl ?_
      refine r_iload k_52_36 rfl ?_
      refine r_icmp_lt k_52_38 rfl (fun c_38 => ?_) (fun c_38 => ?_)
      · refine r_iconst k_52_45 ci_0 ?_
        exact hm_T.ret m_52 k_52_46 rfl (by rw [show hm_wb (k (60 + 4 * q + t) 1) (k (60 + 4 * q + t) 2) x = false from decide_eq_false (fun z => z.2.elim c_32 (fun y => absurd c_38 (Int32.not_lt.mpr y)))] at hQ; exact hQ)
      · refine r_iconst k_52_41 ci_1 ?_
        refine r_goto k_52_42 rfl ?_
        exact hm_T.ret m_52 k_52_46 rfl (by rw [show hm_wb (k (60 + 4 * q + t) 1) (k (60 + 4 * q + t) 2) x = true from decide_eq_true ⟨Or.inl c_21, Or.inr (Int32.not_lt.mp c_38)⟩] at hQ; exact hQ)
  · refine r_iload_n k_52_24 rfl ?_
    refine r_iload_n k_52_25 rfl ?_
    refine r_icmp_gt k_52_26 rfl (fun c_26 => ?_) (fun c_26 => ?_)
    · refine r_iconst k_52_45 ci_0 ?_
      exact hm_T.ret m_52 k_52_46 rfl (by rw [show hm_wb (k (60 + 4 * q + t) 1) (k (60 + 4 * q + t) 2) x = false from decide_eq_false (fun z => z.1.elim c_21 (fun y => absurd c_26 (Int32.not_lt.mpr y)))] at hQ; exact hQ)
    · refine r_iload k_52_29 rfl ?_
      refine r_iconst k_52_31 ci_m1 ?_
      refine r_icmp_eq k_52_32 rfl (fun c_32 => ?_) (fun c_32 => ?_)
      · refine r_iconst k_52_41 ci_1 ?_
        refine r_goto k_52_42 rfl ?_
        exact hm_T.ret m_52 k_52_46 rfl (by rw [show hm_wb (k (60 + 4 * q + t) 1) (k (60 + 4 * q + t) 2) x = true from decide_eq_true ⟨Or.inr (Int32.not_lt.mp c_26), Or.inl c_32⟩] at hQ; exact hQ)
      · refine r_iload_n k_52_35 rfl ?_
        refine r_iload k_52_36 rfl ?_
        refine r_icmp_lt k_52_38 rfl (fun c_38 => ?_) (fun c_38 => ?_)
        · refine r_iconst k_52_45 ci_0 ?_
          exact hm_T.ret m_52 k_52_46 rfl (by rw [show hm_wb (k (60 + 4 * q + t) 1) (k (60 + 4 * q + t) 2) x = false from decide_eq_false (fun z => z.2.elim c_32 (fun y => absurd c_38 (Int32.not_lt.mpr y)))] at hQ; exact hQ)
        · refine r_iconst k_52_41 ci_1 ?_
          refine r_goto k_52_42 rfl ?_
          exact hm_T.ret m_52 k_52_46 rfl (by rw [show hm_wb (k (60 + 4 * q + t) 1) (k (60 + 4 * q + t) 2) x = true from decide_eq_true ⟨Or.inr (Int32.not_lt.mp c_26), Or.inr (Int32.not_lt.mp c_38)⟩] at hQ; exact hQ)
set_option maxRecDepth 20000 in
theorem s_28 {d n s : Nat} {k : hm_M} {ad : hm_AD} {w : hm_W} {h : Nat → Option va_E} {Q : Option Value → hm_H → Prop} {N a : Nat} (hN : k 7 0 = nI N) (hN1 : N ≤ 100) (ha : a < 2 ^ 30) (hQ : Q (some (.int (hm_c (k 6) N a))) (hm_hC k ad w h n s)) : hm_T d 28 0 [.ref 25, .int (nI a)] [] (hm_hC k ad w h n s) Q := by
  refine r_iload_n k_28_0 rfl ?_
  refine r_if_lt k_28_1 rfl (fun z => absurd z (nI_pos (by omega))) (fun c_1 => ?_)
  refine r_iload_n k_28_4 rfl ?_
  refine r_aload_n k_28_5 rfl ?_
  refine r_get m_28 k_28_6 fl_6_15 rfl rfl ?_
  rw [hN]
  refine r_icmp_ge k_28_9 rfl (fun c_9 => ?_) (fun c_9 => ?_)
  · have hge : N ≤ a := by
      rcases Nat.lt_or_ge a N with h1 | h1
      · exact absurd c_9 (nI_ge h1 (by omega))
      · exact h1
    refine r_iconst k_28_21 ci_m1 ?_
    exact hm_T.ret m_28 k_28_22 rfl (by unfold hm_c at hQ; rw [if_neg (by omega)] at hQ; exact hQ)
  · have hlt : a < N := hm_nle c_9 (by omega)
    refine r_aload_n k_28_12 rfl ?_
    refine r_get m_28 k_28_13 fl_6_9 rfl rfl ?_
    refine r_iload_n k_28_16 rfl ?_
    refine r_ialdn (k := a) k_28_17 rfl (Or.inl rfl) rfl (by omega) (by decide) ?_
    refine r_goto k_28_18 rfl ?_
    exact hm_T.ret m_28 k_28_22 rfl (by unfold hm_c at hQ; rw [if_pos hlt] at hQ; exact hQ)
set_option maxRecDepth 20000 in
theorem s_40 {d n s : Nat} {k : hm_M} {ad : hm_AD} {w : hm_W} {h : Nat → Option va_E} {Q : Option Value → hm_H → Prop} (hQ : Q none (hm_hC (hm_uM k 7 (fun _ => nI 0)) ad w h n s)) : hm_T d 40 0 [.ref 25] [] (hm_hC k ad w h n s) Q := by
  refine r_aload_n k_40_0 rfl ?_
  refine r_iconst k_40_1 ci_0 ?_
  refine r_put m_40 k_40_2 fl_6_15 rfl (Nat.le_of_ble_eq_true rfl) rfl rfl (wC_7 _) ?_
  exact hm_T.ret m_40 k_40_5 rfl hQ
set_option maxRecDepth 20000 in
theorem s_29 {d n s : Nat} {k : hm_M} {ad : hm_AD} {w : hm_W} {h : Nat → Option va_E} {Q : Option Value → hm_H → Prop} (hQ : Q (some (.int (nI 0))) (hm_hC (hm_uM k 47 (fun _ => k 47 0 + nI 1)) ad w h n s)) : hm_T d 29 0 [.ref 27] [] (hm_hC k ad w h n s) Q := by
  refine r_aload_n k_29_0 rfl ?_
  refine r_dup k_29_1 rfl ?_
  refine r_get m_29 k_29_2 fl_3_26 rfl rfl ?_
  refine r_iconst k_29_5 ci_1 ?_
  refine r_iadd k_29_6 ?_
  refine r_put m_29 k_29_7 fl_3_26 rfl (Nat.le_of_ble_eq_true rfl) rfl rfl (wC_47 _) ?_
  refine r_iconst k_29_10 ci_0 ?_
  exact hm_T.ret m_29 k_29_11 rfl hQ
set_option maxRecDepth 20000 in
theorem s_33 {d n s : Nat} {k : hm_M} {ad : hm_AD} {w : hm_W} {h : Nat → Option va_E} {Q : Option Value → hm_H → Prop} {x : Int32} (hQ : Q (some (.int (nI 0))) (hm_hC (hm_uM (hm_uM k 47 (fun _ => k 47 0 + nI 1)) 46 (fun _ => x)) ad w h n s)) : hm_T d 33 0 [.ref 27, .int x] [] (hm_hC k ad w h n s) Q := by
  refine r_aload_n k_33_0 rfl ?_
  refine r_dup k_33_1 rfl ?_
  refine r_get m_33 k_33_2 fl_3_26 rfl rfl ?_
  refine r_iconst k_33_5 ci_1 ?_
  refine r_iadd k_33_6 ?_
  refine r_put m_33 k_33_7 fl_3_26 rfl (Nat.le_of_ble_eq_true rfl) rfl rfl (wC_47 _) ?_
  refine r_aload_n k_33_10 rfl ?_
  refine r_iload_n k_33_11 rfl ?_
  refine r_put m_33 k_33_12 fl_3_20 rfl (Nat.le_of_ble_eq_true rfl) rfl rfl (wC_46 _) ?_
  refine r_iconst k_33_15 ci_0 ?_
  exact hm_T.ret m_33 k_33_16 rfl hQ
set_option maxRecDepth 20000 in
theorem s_39 {d : Nat} {hp : hm_H} {Q : Option Value → hm_H → Prop} {x : Int32} (hQ : Q (some (.int (if 48 ≤ x.toInt ∧ x.toInt ≤ 57 then 1 else 0))) hp) : hm_T d 39 0 [.int x] [] hp Q := by
  have e1 : (nI 48).toInt = 48 := by decide +kernel
  have e2 : (nI 57).toInt = 57 := by decide +kernel
  refine r_iload_n k_39_0 rfl ?_
  refine r_bipush k_39_1 cb_48 ?_
  refine r_icmp_lt k_39_3 rfl (fun c_3 => ?_) (fun c_3 => ?_)
  · refine r_iconst k_39_16 ci_0 ?_
    exact hm_T.ret m_39 k_39_17 rfl (by rw [if_neg (fun z => by have := Int32.lt_iff_toInt_lt.mp c_3; omega)] at hQ; exact hQ)
  · refine r_iload_n k_39_6 rfl ?_
    refine r_bipush k_39_7 cb_57 ?_
    refine r_icmp_gt k_39_9 rfl (fun c_9 => ?_) (fun c_9 => ?_)
    · refine r_iconst k_39_16 ci_0 ?_
      exact hm_T.ret m_39 k_39_17 rfl (by rw [if_neg (fun z => by have := Int32.lt_iff_toInt_lt.mp c_9; omega)] at hQ; exact hQ)
    · refine r_iconst k_39_12 ci_1 ?_
      refine r_goto k_39_13 rfl ?_
      exact hm_T.ret m_39 k_39_17 rfl (by rw [if_pos (by have := Int32.le_iff_toInt_le.mp (Int32.not_lt.mp c_3); have := Int32.le_iff_toInt_le.mp (Int32.not_lt.mp c_9); omega)] at hQ; exact hQ)
set_option maxRecDepth 20000 in
theorem s_48 {d n s : Nat} {k : hm_M} {ad : hm_AD} {g : Nat → Nat × Nat} {w : hm_W} {nc np : Nat} {h : Nat → Option va_E} {Q : Option Value → hm_H → Prop} (X : hm_D k ad g nc np n h) {c t : Nat} (hc : c < nc) (ht : t < 4) (hQ : Q (some (.int (hm_bi (decide (¬ k (100 + 2 * c) t = -1))))) (hm_hC k ad w h n s)) : hm_T d 48 0 [.ref (ad 1 c), .int (nI t)] [] (hm_hC k ad w h n s) Q := by
  refine r_aload_n k_48_0 rfl ?_
  refine r_get m_48 k_48_1 fl_1_15 (rD_1 X hc) rfl ?_
  refine r_iload_n k_48_4 rfl ?_
  refine r_ialdn (k := t) k_48_5 (rD_3 X hc) (Or.inl rfl) rfl ht (by decide) ?_
  refine r_iconst k_48_6 ci_m1 ?_
  refine r_icmp_eq k_48_7 rfl (fun c_7 => ?_) (fun c_7 => ?_)
  · refine r_iconst k_48_14 ci_0 ?_
    exact hm_T.ret m_48 k_48_15 rfl (by rw [show decide (¬ k (100 + 2 * c) t = -1) = false from decide_eq_false (fun z => z c_7)] at hQ; exact hQ)
  · refine r_iconst k_48_10 ci_1 ?_
    refine r_goto k_48_11 rfl ?_
    exact hm_T.ret m_48 k_48_15 rfl (by rw [show decide (¬ k (100 + 2 * c) t = -1) = true from decide_eq_true c_7] at hQ; exact hQ)
set_option maxRecDepth 20000 in
theorem s_85 {d n s : Nat} {k : hm_M} {ad : hm_AD} {g : Nat → Nat × Nat} {w : hm_W} {nc np : Nat} {h : Nat → Option va_E} {Q : Option Value → hm_H → Prop} (X : hm_D k ad g nc np n h) {c : Nat} {hour : Int32} (hc : c < nc) (hQ : Q (some (.int (hm_bi (decide (k (100 + 2 * c) 1 = hour ∨ k (100 + 2 * c) 3 = hour))))) (hm_hC k ad w h n s)) : hm_T d 85 0 [.ref (ad 1 c), .int hour] [] (hm_hC k ad w h n s) Q := by
  refine r_aload_n k_85_0 rfl ?_
  refine r_get m_85 k_85_1 fl_1_15 (rD_1 X hc) rfl ?_
  refine r_iconst k_85_4 ci_1 ?_
  refine r_ialdn (k := 1) k_85_5 (rD_3 X hc) (Or.inl rfl) rfl (by decide) (by decide) ?_
  refine r_iload_n k_85_6 rfl ?_
  refine r_icmp_eq k_85_7 rfl (fun c_7 => ?_) (fun c_7 => ?_)
  · refine r_iconst k_85_20 ci_1 ?_
    refine r_goto k_85_21 rfl ?_
    exact hm_T.ret m_85 k_85_25 rfl (by rw [show decide (k (100 + 2 * c) 1 = hour ∨ k (100 + 2 * c) 3 = hour) = true from decide_eq_true (Or.inl c_7)] at hQ; exact hQ)
  · refine r_aload_n k_85_10 rfl ?_
    refine r_get m_85 k_85_11 fl_1_15 (rD_1 X hc) rfl ?_
    refine r_iconst k_85_14 ci_3 ?_
    refine r_ialdn (k := 3) k_85_15 (rD_3 X hc) (Or.inl rfl) rfl (by decide) (by decide) ?_
    refine r_iload_n k_85_16 rfl ?_
    refine r_icmp_ne k_85_17 rfl (fun c_17 => ?_) (fun c_17 => ?_)
    · refine r_iconst k_85_24 ci_0 ?_
      exact hm_T.ret m_85 k_85_25 rfl (by rw [show decide (k (100 + 2 * c) 1 = hour ∨ k (100 + 2 * c) 3 = hour) = false from decide_eq_false (fun z => z.elim c_7 c_17)] at hQ; exact hQ)
    · have c_17 := Decidable.of_not_not c_17
      refine r_iconst k_85_20 ci_1 ?_
      refine r_goto k_85_21 rfl ?_
      exact hm_T.ret m_85 k_85_25 rfl (by rw [show decide (k (100 + 2 * c) 1 = hour ∨ k (100 + 2 * c) 3 = hour) = true from decide_eq_true (Or.inr c_17)] at hQ; exact hQ)
set_option maxRecDepth 20000 in
theorem s_84 {d n s : Nat} {k : hm_M} {ad : hm_AD} {w : hm_W} {h : Nat → Option va_E} {Q : Option Value → hm_H → Prop} (hQ : Q none (hm_hC (hm_uM k 36 (fun _ => nI 0)) ad w h n s)) : hm_T d 84 0 [.ref 7] [] (hm_hC k ad w h n s) Q := by
  refine r_aload_n k_84_0 rfl ?_
  refine r_iconst k_84_1 ci_0 ?_
  refine r_put m_84 k_84_2 fl_0_28 rfl (Nat.le_of_ble_eq_true rfl) rfl rfl (wC_36 _) ?_
  exact hm_T.ret m_84 k_84_5 rfl hQ
set_option maxRecDepth 20000 in
theorem s_86_full {d n s : Nat} {k : hm_M} {ad : hm_AD} {w : hm_W} {h : Nat → Option va_E} {Q : Option Value → hm_H → Prop} {W : Nat} {x y : Int32} (hW : k 36 0 = nI W) (hW4 : 4 ≤ W) (hW5 : W < 1000) (hQ : Q none (hm_hC k ad w h n s)) : hm_T d 86 0 [.ref 7, .int x, .int y] [] (hm_hC k ad w h n s) Q := by
  refine r_aload_n k_86_0 rfl ?_
  refine r_get m_86 k_86_1 fl_0_28 rfl rfl ?_
  rw [hW]
  refine r_iconst k_86_4 ci_4 ?_
  refine r_icmp_ge k_86_5 rfl (fun c_5 => ?_) (fun z => absurd (nI_le hW4 (by omega)) z)
  exact hm_T.ret m_86 k_86_38 rfl hQ
set_option maxRecDepth 20000 in
theorem s_86 {d n s : Nat} {k : hm_M} {ad : hm_AD} {w : hm_W} {h : Nat → Option va_E} {Q : Option Value → hm_H → Prop} {W : Nat} {x y : Int32} (hW : k 36 0 = nI W) (hW4 : W < 4) (hQ : Q none (hm_hC (hm_uM (hm_uM (hm_uM k 37 (upd (k 37) W x)) 38 (upd (k 38) W y)) 36 (fun _ => nI (W + 1))) ad w h n s)) : hm_T d 86 0 [.ref 7, .int x, .int y] [] (hm_hC k ad w h n s) Q := by
  refine r_aload_n k_86_0 rfl ?_
  refine r_get m_86 k_86_1 fl_0_28 rfl rfl ?_
  rw [hW]
  refine r_iconst k_86_4 ci_4 ?_
  refine r_icmp_ge k_86_5 rfl (fun z => absurd z (nI_ge hW4 (by omega))) (fun c_5 => ?_)
  refine r_aload_n k_86_8 rfl ?_
  refine r_get m_86 k_86_9 fl_0_19 rfl rfl ?_
  refine r_aload_n k_86_12 rfl ?_
  refine r_get m_86 k_86_13 fl_0_28 rfl rfl ?_
  rw [hW]
  refine r_iload_n k_86_16 rfl ?_
  refine r_iastn (k := W) k_86_17 rfl rfl rfl hW4 (by decide) (wC_37 _) ?_
  refine r_aload_n k_86_18 rfl ?_
  refine r_get m_86 k_86_19 fl_0_22 rfl rfl ?_
  refine r_aload_n k_86_22 rfl ?_
  refine r_get m_86 k_86_23 fl_0_28 rfl rfl ?_
  rw [show hm_uM k 37 (upd (k 37) W x) 36 0 = nI W from hW]
  refine r_iload_n k_86_26 rfl ?_
  refine r_iastn (k := W) k_86_27 rfl rfl rfl hW4 (by decide) (wC_38 _) ?_
  refine r_aload_n k_86_28 rfl ?_
  refine r_dup k_86_29 rfl ?_
  refine r_get m_86 k_86_30 fl_0_28 rfl rfl ?_
  rw [show hm_uM (hm_uM k 37 (upd (k 37) W x)) 38 (upd (hm_uM k 37 (upd (k 37) W x) 38) W y) 36 0 = nI W from hW]
  refine r_iconst k_86_33 ci_1 ?_
  refine r_iadd k_86_34 ?_
  rw [nI_add]
  refine r_put m_86 k_86_35 fl_0_28 rfl (Nat.le_of_ble_eq_true rfl) rfl rfl (wC_36 _) ?_
  exact hm_T.ret m_86 k_86_38 rfl hQ
set_option maxRecDepth 20000 in
theorem s_101 {d n s : Nat} {k : hm_M} {ad : hm_AD} {w : hm_W} {h : Nat → Option va_E} {Q : Option Value → hm_H → Prop} {W i : Nat} (hW : k 36 0 = nI W) (hW4 : W ≤ 4) (hi : i < W) (hQ : Q (some (.int (k 39 i))) (hm_hC k ad w h n s)) : hm_T d 101 0 [.ref 7, .int (nI i)] [] (hm_hC k ad w h n s) Q := by
  refine r_iload_n k_101_0 rfl ?_
  refine r_if_lt k_101_1 rfl (fun z => absurd z (nI_pos (by omega))) (fun c_1 => ?_)
  refine r_iload_n k_101_4 rfl ?_
  refine r_aload_n k_101_5 rfl ?_
  refine r_get m_101 k_101_6 fl_0_28 rfl rfl ?_
  rw [hW]
  refine r_icmp_ge k_101_9 rfl (fun z => absurd z (nI_ge hi (by omega))) (fun c_9 => ?_)
  refine r_aload_n k_101_12 rfl ?_
  refine r_get m_101 k_101_13 fl_0_25 rfl rfl ?_
  refine r_iload_n k_101_16 rfl ?_
  refine r_ialdn (k := i) k_101_17 rfl (Or.inl rfl) rfl (by omega) (by decide) ?_
  refine r_goto k_101_18 rfl ?_
  exact hm_T.ret m_101 k_101_22 rfl hQ
set_option maxRecDepth 20000 in
theorem s_23 {d n s : Nat} {k : hm_M} {ad : hm_AD} {w : hm_W} {h : Nat → Option va_E} {Q : Option Value → hm_H → Prop} {v : Int32} {nb : Nat} (hb : k 2 0 = nI nb) (hb12 : nb ≤ 12) (hQ : Q (some (.int (if nb = 12 then -1004 else nI nb))) (hm_hC (if nb = 12 then k else hm_uM (hm_uM k 3 (upd (k 3) nb v)) 2 (fun _ => nI (nb + 1))) ad w h n s)) : hm_T d 23 0 [.ref 7, .int v] [] (hm_hC k ad w h n s) Q := by
  refine r_aload_n k_23_0 rfl ?_
  refine r_get m_23 k_23_1 fl_0_15 rfl rfl ?_
  rw [hb]
  refine r_bipush k_23_4 cb_12 ?_
  refine r_icmp_lt k_23_6 rfl (fun c_6 => ?_) (fun c_6 => ?_)
  · have hnb : nb < 12 := (nI_ltI (by omega) (by omega)).mp c_6
    rw [if_neg (by omega), if_neg (by omega)] at hQ
    refine r_aload_n k_23_13 rfl ?_
    refine r_get m_23 k_23_14 fl_0_11 rfl rfl ?_
    refine r_aload_n k_23_17 rfl ?_
    refine r_get m_23 k_23_18 fl_0_15 rfl rfl ?_
    rw [hb]
    refine r_iload_n k_23_21 rfl ?_
    refine r_iastn (k := nb) k_23_22 rfl rfl rfl hnb (by decide) (wC_3 _) ?_
    refine r_aload_n k_23_23 rfl ?_
    refine r_dup k_23_24 rfl ?_
    refine r_get m_23 k_23_25 fl_0_15 rfl rfl ?_
    rw [show hm_uM k 3 (upd (k 3) nb v) 2 0 = nI nb from hb]
    refine r_iconst k_23_28 ci_1 ?_
    refine r_iadd k_23_29 ?_
    rw [nI_add]
    refine r_put m_23 k_23_30 fl_0_15 rfl (Nat.le_of_ble_eq_true rfl) rfl rfl (wC_2 _) ?_
    refine r_aload_n k_23_33 rfl ?_
    refine r_get m_23 k_23_34 fl_0_15 rfl rfl ?_
    refine r_iconst k_23_37 ci_1 ?_
    refine r_isub k_23_38 ?_
    rw [show hm_uM (hm_uM k 3 (upd (k 3) nb v)) 2 (fun _ => nI (nb + 1)) 2 0 = nI nb + nI 1 from (nI_add nb 1).symm, hm_addsub]
    exact hm_T.ret m_23 k_23_39 rfl hQ
  · have hnb : nb = 12 := by
      rcases Nat.lt_or_ge nb 12 with h1 | h1
      · exact absurd (nI_lt h1 (by omega)) c_6
      · omega
    rw [if_pos hnb, if_pos hnb] at hQ
    refine r_sipush k_23_9 cs_m1004 ?_
    exact hm_T.ret m_23 k_23_12 rfl hQ
