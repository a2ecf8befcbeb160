set_option maxRecDepth 20000 in
theorem s_74_bad {d n s : Nat} {k : hm_M} {ad : hm_AD} {g : Nat → Nat × Nat} {w : hm_W} {nc np : Nat} {h : Nat → Option va_E} {Q : Option Value → hm_H → Prop} (X : hm_D k ad g nc np n h) {c pa x : Int32} (hb : ¬ (0 ≤ c.toInt ∧ c.toInt < nc)) (hQ : Q (some (.int (-1001))) (hm_hC k ad w h n s)) : hm_T (d + 5) 74 0 [.ref 4, .int c, .int pa, .int x, .retAddr 0] [] (hm_hC k ad w h n s) Q := by
  refine r_aload_n k_74_0 rfl ?_
  refine r_iload_n k_74_1 rfl ?_
  refine r_callv2 m_74 k_74_2 cl_7_161 m_75 (by decide) rfl rfl (Nat.le_of_ble_eq_true rfl) (Nat.le_of_ble_eq_true rfl) rfl rfl ?_
  refine s_75_bad X hb ?_
  refine r_astoreN k_74_5 rfl ?_
  refine r_aloadN k_74_7 rfl ?_
  refine r_ifnonnullN k_74_9 ?_
  refine r_sipush k_74_12 cs_m1001 ?_
  exact hm_T.ret m_74 k_74_15 rfl hQ
set_option maxRecDepth 20000 in
theorem s_74_out {d n s : Nat} {k : hm_M} {ad : hm_AD} {g : Nat → Nat × Nat} {w : hm_W} {nc np : Nat} {h : Nat → Option va_E} {Q : Option Value → hm_H → Prop} (X : hm_D k ad g nc np n h) {c : Nat} (hc : c < nc) {pa x : Int32} (ho : ¬ ((0 ≤ pa.toInt ∧ pa.toInt ≤ 5) ∧ (x = -1 ∨ (0 ≤ x.toInt ∧ x.toInt ≤ 399)))) (hQ : Q (some (.int (-1002))) (hm_hC k ad w h n s)) : hm_T (d + 5) 74 0 [.ref 4, .int (nI c), .int pa, .int x, .retAddr 0] [] (hm_hC k ad w h n s) Q := by
  refine r_aload_n k_74_0 rfl ?_
  refine r_iload_n k_74_1 rfl ?_
  refine r_callv2 m_74 k_74_2 cl_7_161 m_75 (by decide) rfl rfl (Nat.le_of_ble_eq_true rfl) (Nat.le_of_ble_eq_true rfl) rfl rfl ?_
  refine s_75 X hc ?_
  refine r_astore k_74_5 rfl ?_
  refine r_aload k_74_7 rfl ?_
  refine r_ifnonnull k_74_9 rfl ?_
  refine r_iload_n k_74_16 rfl ?_
  refine r_iconst k_74_17 ci_0 ?_
  refine r_iconst k_74_18 ci_5 ?_
  refine r_calls3 m_74 k_74_19 cl_7_78 m_13 (by decide) rfl rfl (Nat.le_of_ble_eq_true rfl) (Nat.le_of_ble_eq_true rfl) ?_
  refine s_13 ?_
  rw [show (nI 0).toInt = 0 by decide +kernel, show (nI 5).toInt = 5 by decide +kernel]
  refine r_if_eq k_74_22 rfl (fun c_22 => ?_) (fun c_22 => ?_)
  · have c_22 := hm_if0 c_22
    refine r_sipush k_74_37 cs_m1002 ?_
    exact hm_T.ret m_74 k_74_40 rfl hQ
  · have c_22 := hm_if1 c_22
    refine r_iload_n k_74_25 rfl ?_
    refine r_iconst k_74_26 ci_m1 ?_
    refine r_icmp_eq k_74_27 rfl (fun c_27 => ?_) (fun c_27 => ?_)
    · exact absurd ⟨c_22, Or.inl c_27⟩ ho
    · refine r_iload_n k_74_30 rfl ?_
      refine r_calls1 m_74 k_74_31 cl_7_151 m_64 (by decide) rfl rfl (Nat.le_of_ble_eq_true rfl) (Nat.le_of_ble_eq_true rfl) ?_
      refine s_64 ?_
      refine r_if_ne k_74_34 rfl (fun c_34 => ?_) (fun c_34 => ?_)
      · have c_34 := hm_if1 c_34
        exact absurd ⟨c_22, Or.inr c_34⟩ ho
      · have c_34 := hm_if0 (Decidable.of_not_not c_34)
        refine r_sipush k_74_37 cs_m1002 ?_
        exact hm_T.ret m_74 k_74_40 rfl hQ
set_option maxRecDepth 20000 in
theorem s_74 {d n s : Nat} {k : hm_M} {ad : hm_AD} {g : Nat → Nat × Nat} {w : hm_W} {nc np : Nat} {h : Nat → Option va_E} {Q : Option Value → hm_H → Prop} (X : hm_D k ad g nc np n h) {c pa f : Nat} (hc : c < nc) (hpa : pa < 6) {x : Int32} (hx : x = -1 ∨ (0 ≤ x.toInt ∧ x.toInt ≤ 399)) (hf : f < 4) (hkf : k 10 c = nI f) (hho : hm_hok k c) (hQ : ∀ h2, hm_D (hc_ub c (ad 0 f) 4 0 (hm_uM k (101 + 2 * c) (upd (k (101 + 2 * c)) pa x))).2 ad g nc np n h2 → hm_lo h h2 → Q (some (.int (nI (hc_ub c (ad 0 f) 4 0 (hm_uM k (101 + 2 * c) (upd (k (101 + 2 * c)) pa x))).1))) (hm_hC (hc_ub c (ad 0 f) 4 0 (hm_uM k (101 + 2 * c) (upd (k (101 + 2 * c)) pa x))).2 ad w h2 n s)) : hm_T (d + 5) 74 0 [.ref 4, .int (nI c), .int (nI pa), .int x, .retAddr 0] [] (hm_hC k ad w h n s) Q := by
  obtain ⟨h2, e2, X2, hl⟩ := wD_p X (w := w) (s := s) hc (upd (k (101 + 2 * c)) pa x)
  refine r_aload_n k_74_0 rfl ?_
  refine r_iload_n k_74_1 rfl ?_
  refine r_callv2 m_74 k_74_2 cl_7_161 m_75 (by decide) rfl rfl (Nat.le_of_ble_eq_true rfl) (Nat.le_of_ble_eq_true rfl) rfl rfl ?_
  refine s_75 X hc ?_
  refine r_astore k_74_5 rfl ?_
  refine r_aload k_74_7 rfl ?_
  refine r_ifnonnull k_74_9 rfl ?_
  refine r_iload_n k_74_16 rfl ?_
  refine r_iconst k_74_17 ci_0 ?_
  refine r_iconst k_74_18 ci_5 ?_
  refine r_calls3 m_74 k_74_19 cl_7_78 m_13 (by decide) rfl rfl (Nat.le_of_ble_eq_true rfl) (Nat.le_of_ble_eq_true rfl) ?_
  refine s_13 ?_
  rw [show (nI 0).toInt = 0 by decide +kernel, show (nI 5).toInt = 5 by decide +kernel]
  rw [if_pos (by rw [nI_toInt (by omega)]; omega)]
  refine r_if_eq k_74_22 rfl (fun z => absurd z (show ¬ (1 : Int32) = 0 by decide)) (fun c_22 => ?_)
  refine r_iload_n k_74_25 rfl ?_
  refine r_iconst k_74_26 ci_m1 ?_
  refine r_icmp_eq k_74_27 rfl (fun c_27 => ?_) (fun c_27 => ?_)
  · refine r_aload k_74_41 rfl ?_
    refine r_get m_74 k_74_43 fl_7_165 (rD_1 X hc) rfl ?_
    refine r_iload_n k_74_46 rfl ?_
    refine r_iload_n k_74_47 rfl ?_
    refine r_iastn (k := pa) k_74_48 (rD_2 X hc) rfl rfl hpa (by decide) e2 ?_
    refine r_aload_n k_74_49 rfl ?_
    refine r_aload k_74_50 rfl ?_
    refine r_callv2 m_74 k_74_52 cl_7_137 m_46 (by decide) rfl rfl (Nat.le_of_ble_eq_true rfl) (Nat.le_of_ble_eq_true rfl) rfl rfl ?_
    refine s_46 X2 hc hf ((congrFun (show hm_uM k (101 + 2 * c) (upd (k (101 + 2 * c)) pa x) 10 = k 10 from if_neg (by omega)) c).trans hkf) (hm_hok_c (if_neg (by omega)) hho) (fun h3 X3 hl3 => ?_)
    exact hm_T.ret m_74 k_74_55 rfl (hQ h3 X3 (hl.tr hl3))
  · refine r_iload_n k_74_30 rfl ?_
    refine r_calls1 m_74 k_74_31 cl_7_151 m_64 (by decide) rfl rfl (Nat.le_of_ble_eq_true rfl) (Nat.le_of_ble_eq_true rfl) ?_
    refine s_64 ?_
    refine r_if_ne k_74_34 rfl (fun c_34 => ?_) (fun c_34 => ?_)
    · have c_34 := hm_if1 c_34
      refine r_aload k_74_41 rfl ?_
      refine r_get m_74 k_74_43 fl_7_165 (rD_1 X hc) rfl ?_
      refine r_iload_n k_74_46 rfl ?_
      refine r_iload_n k_74_47 rfl ?_
      refine r_iastn (k := pa) k_74_48 (rD_2 X hc) rfl rfl hpa (by decide) e2 ?_
      refine r_aload_n k_74_49 rfl ?_
      refine r_aload k_74_50 rfl ?_
      refine r_callv2 m_74 k_74_52 cl_7_137 m_46 (by decide) rfl rfl (Nat.le_of_ble_eq_true rfl) (Nat.le_of_ble_eq_true rfl) rfl rfl ?_
      refine s_46 X2 hc hf ((congrFun (show hm_uM k (101 + 2 * c) (upd (k (101 + 2 * c)) pa x) 10 = k 10 from if_neg (by omega)) c).trans hkf) (hm_hok_c (if_neg (by omega)) hho) (fun h3 X3 hl3 => ?_)
      exact hm_T.ret m_74 k_74_55 rfl (hQ h3 X3 (hl.tr hl3))
    · have c_34 := hm_if0 (Decidable.of_not_not c_34)
      exact absurd hx (fun z => z.elim c_27 c_34)
set_option maxRecDepth 20000 in
theorem s_97_bad {d n s : Nat} {k : hm_M} {ad : hm_AD} {g : Nat → Nat × Nat} {w : hm_W} {nc np : Nat} {h : Nat → Option va_E} {Q : Option Value → hm_H → Prop} (X : hm_D k ad g nc np n h) {c t : Int32} (hb : ¬ (0 ≤ c.toInt ∧ c.toInt < nc)) (hQ : Q (some (.int (-1001))) (hm_hC k ad w h n s)) : hm_T (d + 5) 97 0 [.ref 4, .int c, .int t, .retAddr 0] [] (hm_hC k ad w h n s) Q := by
  refine r_aload_n k_97_0 rfl ?_
  refine r_iload_n k_97_1 rfl ?_
  refine r_callv2 m_97 k_97_2 cl_7_161 m_75 (by decide) rfl rfl (Nat.le_of_ble_eq_true rfl) (Nat.le_of_ble_eq_true rfl) rfl rfl ?_
  refine s_75_bad X hb ?_
  refine r_astore_nN k_97_5 rfl ?_
  refine r_aload_nN k_97_6 rfl ?_
  refine r_ifnonnullN k_97_7 ?_
  refine r_sipush k_97_10 cs_m1001 ?_
  exact hm_T.ret m_97 k_97_13 rfl hQ
set_option maxRecDepth 20000 in
theorem s_97_out {d n s : Nat} {k : hm_M} {ad : hm_AD} {g : Nat → Nat × Nat} {w : hm_W} {nc np : Nat} {h : Nat → Option va_E} {Q : Option Value → hm_H → Prop} (X : hm_D k ad g nc np n h) {c : Nat} (hc : c < nc) {t : Int32} (ho : ¬ (0 ≤ t.toInt ∧ t.toInt ≤ 3)) (hQ : Q (some (.int (-1002))) (hm_hC k ad w h n s)) : hm_T (d + 5) 97 0 [.ref 4, .int (nI c), .int t, .retAddr 0] [] (hm_hC k ad w h n s) Q := by
  refine r_aload_n k_97_0 rfl ?_
  refine r_iload_n k_97_1 rfl ?_
  refine r_callv2 m_97 k_97_2 cl_7_161 m_75 (by decide) rfl rfl (Nat.le_of_ble_eq_true rfl) (Nat.le_of_ble_eq_true rfl) rfl rfl ?_
  refine s_75 X hc ?_
  refine r_astore_n k_97_5 rfl ?_
  refine r_aload_n k_97_6 rfl ?_
  refine r_ifnonnull k_97_7 rfl ?_
  refine r_iload_n k_97_14 rfl ?_
  refine r_calls1 m_97 k_97_15 cl_7_144 m_62 (by decide) rfl rfl (Nat.le_of_ble_eq_true rfl) (Nat.le_of_ble_eq_true rfl) ?_
  refine s_62 ?_
  rw [if_neg ho]
  refine r_if_ne k_97_18 rfl (fun z => absurd z (fun z => z rfl)) (fun c_18 => ?_)
  refine r_sipush k_97_21 cs_m1002 ?_
  exact hm_T.ret m_97 k_97_24 rfl hQ
set_option maxRecDepth 20000 in
theorem s_97_not {d n s : Nat} {k : hm_M} {ad : hm_AD} {g : Nat → Nat × Nat} {w : hm_W} {nc np : Nat} {h : Nat → Option va_E} {Q : Option Value → hm_H → Prop} (X : hm_D k ad g nc np n h) {c t : Nat} (hc : c < nc) (ht : t < 4) (hx : k (100 + 2 * c) t = -1) (hQ : Q (some (.int (-1003))) (hm_hC k ad w h n s)) : hm_T (d + 5) 97 0 [.ref 4, .int (nI c), .int (nI t), .retAddr 0] [] (hm_hC k ad w h n s) Q := by
  refine r_aload_n k_97_0 rfl ?_
  refine r_iload_n k_97_1 rfl ?_
  refine r_callv2 m_97 k_97_2 cl_7_161 m_75 (by decide) rfl rfl (Nat.le_of_ble_eq_true rfl) (Nat.le_of_ble_eq_true rfl) rfl rfl ?_
  refine s_75 X hc ?_
  refine r_astore_n k_97_5 rfl ?_
  refine r_aload_n k_97_6 rfl ?_
  refine r_ifnonnull k_97_7 rfl ?_
  refine r_iload_n k_97_14 rfl ?_
  refine r_calls1 m_97 k_97_15 cl_7_144 m_62 (by decide) rfl rfl (Nat.le_of_ble_eq_true rfl) (Nat.le_of_ble_eq_true rfl) ?_
  refine s_62 ?_
  rw [if_pos (by rw [nI_toInt (by omega)]; omega)]
  refine r_if_ne k_97_18 rfl (fun c_18 => ?_) (fun z => absurd (show ¬ (1 : Int32) = 0 by decide) z)
  refine r_aload_n k_97_25 rfl ?_
  refine r_iload_n k_97_26 rfl ?_
  refine r_callv2 m_97 k_97_27 cl_7_176 m_48 (by decide) rfl rfl (Nat.le_of_ble_eq_true rfl) (Nat.le_of_ble_eq_true rfl) (rD_1 X hc) rfl ?_
  refine s_48 X hc ht ?_
  rw [show decide (¬ k (100 + 2 * c) t = -1) = false from decide_eq_false (fun z => z hx)]
  refine r_if_ne k_97_30 rfl (fun z => absurd z (by decide)) (fun c_30 => ?_)
  refine r_sipush k_97_33 cs_m1003 ?_
  exact hm_T.ret m_97 k_97_36 rfl hQ
theorem hc_tb_o {k : hm_M} {c t hh f : Nat} (h1 : ¬ f = 31) (h2 : ¬ f = 17) (h3 : f < 40 ∨ 45 < f) (h4 : ¬ f = 100 + 2 * c) : hc_tb k c t hh f = k f := by
  show (if f = 17 then (fun _ => k 17 0 + nI 1) else if f = 31 then (fun _ => k 31 0 - nI 1) else hc_rm (hm_uM (hc_es (hc_rm k c (-1)) c t hh (-1)) (100 + 2 * c) (upd (k (100 + 2 * c)) t (-1))) c (nI 1) f) = _
  rw [if_neg h2, if_neg h1, hc_rm_o (by omega)]
  show (if f = 100 + 2 * c then upd (k (100 + 2 * c)) t (-1) else hc_es (hc_rm k c (-1)) c t hh (-1) f) = _
  rw [if_neg h4, hc_es_o h3, hc_rm_o (by omega)]
theorem hc_tb_10 {k : hm_M} {c t hh : Nat} : hc_tb k c t hh 10 = k 10 := hc_tb_o (by decide) (by decide) (by decide) (by omega)
set_option maxRecDepth 20000 in
theorem s_97 {d n s : Nat} {k : hm_M} {ad : hm_AD} {g : Nat → Nat × Nat} {w : hm_W} {nc np : Nat} {h : Nat → Option va_E} {Q : Option Value → hm_H → Prop} (X : hm_D k ad g nc np n h) {c t f hh : Nat} (hc : c < nc) (ht : t < 4) (hh4 : hh < 400) (hx : k (100 + 2 * c) t = nI hh) (hf : f < 4) (hkf : k 10 c = nI f) (hho : hm_hok k c) (hQ : ∀ h2, hm_D (hc_ub c (ad 0 f) 4 0 (hc_tb k c t hh)).2 ad g nc np n h2 → hm_lo h h2 → Q (some (.int (nI 1 + nI (hc_ub c (ad 0 f) 4 0 (hc_tb k c t hh)).1))) (hm_hC (hc_ub c (ad 0 f) 4 0 (hc_tb k c t hh)).2 ad w h2 n s)) : hm_T (d + 5) 97 0 [.ref 4, .int (nI c), .int (nI t), .retAddr 0] [] (hm_hC k ad w h n s) Q := by
  refine r_aload_n k_97_0 rfl ?_
  refine r_iload_n k_97_1 rfl ?_
  refine r_callv2 m_97 k_97_2 cl_7_161 m_75 (by decide) rfl rfl (Nat.le_of_ble_eq_true rfl) (Nat.le_of_ble_eq_true rfl) rfl rfl ?_
  refine s_75 X hc ?_
  refine r_astore_n k_97_5 rfl ?_
  refine r_aload_n k_97_6 rfl ?_
  refine r_ifnonnull k_97_7 rfl ?_
  refine r_iload_n k_97_14 rfl ?_
  refine r_calls1 m_97 k_97_15 cl_7_144 m_62 (by decide) rfl rfl (Nat.le_of_ble_eq_true rfl) (Nat.le_of_ble_eq_true rfl) ?_
  refine s_62 ?_
  rw [if_pos (by rw [nI_toInt (by omega)]; omega)]
  refine r_if_ne k_97_18 rfl (fun c_18 => ?_) (fun z => absurd (show ¬ (1 : Int32) = 0 by decide) z)
  refine r_aload_n k_97_25 rfl ?_
  refine r_iload_n k_97_26 rfl ?_
  refine r_callv2 m_97 k_97_27 cl_7_176 m_48 (by decide) rfl rfl (Nat.le_of_ble_eq_true rfl) (Nat.le_of_ble_eq_true rfl) (rD_1 X hc) rfl ?_
  refine s_48 X hc ht ?_
  rw [show decide (¬ k (100 + 2 * c) t = -1) = true from decide_eq_true (by rw [hx]; exact hm_nIm hh (by omega))]
  refine r_if_ne k_97_30 rfl (fun c_30 => ?_) (fun z => absurd (by decide) z)
  refine r_aload_n k_97_37 rfl ?_
  refine r_aload_n k_97_38 rfl ?_
  refine r_iload_n k_97_39 rfl ?_
  refine r_callv3 m_97 k_97_40 cl_7_179 m_54 (by decide) rfl rfl (Nat.le_of_ble_eq_true rfl) (Nat.le_of_ble_eq_true rfl) rfl rfl ?_
  refine s_54 X hc ht hh4 hho hx (fun h2 X2 hl => ?_)
  refine r_iconst k_97_43 ci_1 ?_
  refine r_aload_n k_97_44 rfl ?_
  refine r_aload_n k_97_45 rfl ?_
  refine r_callv2 m_97 k_97_46 cl_7_137 m_46 (by decide) rfl rfl (Nat.le_of_ble_eq_true rfl) (Nat.le_of_ble_eq_true rfl) rfl rfl ?_
  refine s_46 X2 hc hf (by rw [hc_tb_10]; exact hkf) (hc_tb_ok hho) (fun h3 X3 hl3 => ?_)
  refine r_iadd k_97_49 ?_
  exact hm_T.ret m_97 k_97_50 rfl (hQ h3 X3 (hl.tr hl3))
def hc_gr (t r : Int32) : Int32 := (if 0 < lg_cmp (t.toInt64 + t.toInt64 * r.toInt64 / 10000) 100000000 then (100000000 : Int64) else t.toInt64 + t.toInt64 * r.toInt64 / 10000).toInt32
def hc_grn (r : Int32) : Nat → Int32 → Int32
  | 0, t => t
  | j + 1, t => hc_grn r j (hc_gr t r)
def hc_up (k : hm_M) (q : Nat) (x : Int32) : hm_M := hm_uM k 20 (upd (k 20) q x)
theorem hc_up_i {k : hm_M} {q : Nat} : hc_up k q (k 20 q) = k := by
  unfold hc_up
  rw [upd_self, hm_uMs]
theorem hc_up_up {k : hm_M} {q : Nat} {x y : Int32} : hc_up (hc_up k q x) q y = hc_up k q y := by
  unfold hc_up
  rw [hm_uM2, hm_uMe, upd_upd]
set_option maxRecDepth 20000 in
theorem l_111 {d n s : Nat} {ad : hm_AD} {g : Nat → Nat × Nat} {w : hm_W} {nc np : Nat} {Q : Option Value → hm_H → Prop} {q N : Nat} {r : Int32} (hq : q < np) (hN : N ≤ 400) : ∀ (j i : Nat) (k : hm_M) (h : Nat → Option va_E) (va vb : Value), va.category ≤ 2 → hm_D k ad g nc np n h → i + j = N → (∀ h2, hm_D (hc_up k q (hc_grn r j (k 20 q))) ad g nc np n h2 → hm_lo h h2 → Q none (hm_hC (hc_up k q (hc_grn r j (k 20 q))) ad w h2 n s)) → hm_T (d + 1) 111 2 [.ref (ad 2 q), .int (nI N), .int r, .int (nI i), va, vb] [] (hm_hC k ad w h n s) Q := by
  intro j
  induction j with
  | zero =>
    intro i k h va vb hva X hi hQ
    refine r_iload_n k_111_2 rfl ?_
    refine r_iload_n k_111_3 rfl ?_
    refine r_icmp_ge k_111_4 rfl (fun c_4 => ?_) (fun z => absurd (nI_le (show N ≤ i by omega) (by omega)) z)
    exact hm_T.ret m_111 k_111_46 rfl (by have e : hc_up k q (hc_grn r 0 (k 20 q)) = k := hc_up_i; rw [e] at hQ; exact hQ h X (hm_lo.rfl2 h))
  | succ j ih =>
    intro i k h va vb hva X hi hQ
    refine r_iload_n k_111_2 rfl ?_
    refine r_iload_n k_111_3 rfl ?_
    refine r_icmp_ge k_111_4 rfl (fun z => absurd z (nI_ge (show i < N by omega) (by omega))) (fun c_4 => ?_)
    refine r_aload_n k_111_7 rfl ?_
    refine r_get m_111 k_111_8 fl_5_9 (rD_4 X hq) rfl ?_
    refine r_i2l k_111_11 ?_
    refine r_aload_n k_111_12 rfl ?_
    refine r_get m_111 k_111_13 fl_5_9 (rD_4 X hq) rfl ?_
    refine r_i2l k_111_16 ?_
    refine r_iload_n k_111_17 rfl ?_
    refine r_i2l k_111_18 ?_
    refine r_lmul k_111_19 ?_
    refine r_ldc2_w m_111 k_111_20 ll_5_28 ?_
    refine r_ldiv k_111_23 (by decide) ?_
    refine r_ladd k_111_24 ?_
    refine r_lstore k_111_25 rfl ?_
    refine r_aload_n k_111_27 rfl ?_
    refine r_lload k_111_28 rfl ?_
    refine r_ldc2_w m_111 k_111_30 ll_5_30 ?_
    refine r_calls2 m_111 k_111_33 cl_5_32 m_112 (by decide) rfl rfl (Nat.le_of_ble_eq_true rfl) (Nat.le_of_ble_eq_true rfl) ?_
    refine s_112 ?_
    refine r_l2i k_111_36 ?_
    obtain ⟨h2, e2, X2, hl⟩ := wD_20 X (w := w) (s := s) hq (hc_gr (k 20 q) r)
    refine r_put m_111 k_111_37 fl_5_9 (rD_4 X hq) (Nat.le_of_ble_eq_true rfl) rfl rfl e2 ?_
    refine r_iincn k_111_40 rfl (nI_inc i) rfl ?_
    refine r_goto k_111_43 rfl ?_
    refine ih (i + 1) _ h2 _ _ (Nat.le_refl _) X2 (by omega) (fun h3 X3 hl3 => ?_)
    have e4 : hc_up (hm_uM k 20 (upd (k 20) q (hc_gr (k 20 q) r))) q (hc_grn r j (hm_uM k 20 (upd (k 20) q (hc_gr (k 20 q) r)) 20 q)) = hc_up k q (hc_grn r (j + 1) (k 20 q)) := by
      rw [show hm_uM k 20 (upd (k 20) q (hc_gr (k 20 q) r)) 20 q = hc_gr (k 20 q) r from if_pos rfl]
      exact hc_up_up
    rw [e4] at X3 ⊢
    exact hQ h3 X3 (hl.tr hl3)
set_option maxRecDepth 20000 in
theorem s_111 {d n s : Nat} {k : hm_M} {ad : hm_AD} {g : Nat → Nat × Nat} {w : hm_W} {nc np : Nat} {h : Nat → Option va_E} {Q : Option Value → hm_H → Prop} (X : hm_D k ad g nc np n h) {q N : Nat} {r : Int32} (hq : q < np) (hN : N ≤ 400) (hQ : ∀ h2, hm_D (hc_up k q (hc_grn r N (k 20 q))) ad g nc np n h2 → hm_lo h h2 → Q (none) (hm_hC (hc_up k q (hc_grn r N (k 20 q))) ad w h2 n s)) : hm_T (d + 1) 111 0 [.ref (ad 2 q), .int (nI N), .int r, .retAddr 0, .retAddr 0, .retAddr 0] [] (hm_hC k ad w h n s) Q := by
  refine r_iconst k_111_0 ci_0 ?_
  refine r_istore_n k_111_1 rfl ?_
  exact l_111 hq hN N 0 k h _ _ (Nat.le_of_ble_eq_true rfl) X (by omega) hQ
def hc_dy (N : Nat) : Nat → Nat → hm_M → hm_M
  | 0, _, k => k
  | j + 1, q, k => hc_dy N j (q + 1) (hc_up k q (hc_grn (k 23 0) N (k 20 q)))
theorem hc_dy_23 {N : Nat} : ∀ (j q : Nat) (k : hm_M), hc_dy N j q k 23 = k 23 := by
  intro j
  induction j with
  | zero => intro q k; rfl
  | succ j ih => intro q k; exact (ih _ _).trans rfl
set_option maxRecDepth 20000 in
theorem l_110 {d n s : Nat} {ad : hm_AD} {g : Nat → Nat × Nat} {w : hm_W} {nc np : Nat} {Q : Option Value → hm_H → Prop} {N : Nat} (hN : N ≤ 400) : ∀ (j q : Nat) (k : hm_M) (h : Nat → Option va_E), hm_D k ad g nc np n h → q + j = np → (∀ h2, hm_D (hc_dy N j q k) ad g nc np n h2 → hm_lo h h2 → Q (some (.int (hm_sg (hc_dy N j q k 20) np))) (hm_hC (hc_dy N j q k) ad w h2 n s)) → hm_T (d + 4) 110 17 [.ref 4, .int (nI N), .int (nI q)] [] (hm_hC k ad w h n s) Q := by
  intro j
  induction j with
  | zero =>
    intro q k h X hi hQ
    have h16 := X.np16
    refine r_iload_n k_110_17 rfl ?_
    refine r_aload_n k_110_18 rfl ?_
    refine r_get m_110 k_110_19 fl_7_69 rfl rfl ?_
    refine r_callv1 m_110 k_110_22 cl_7_124 m_41 (by decide) rfl rfl (Nat.le_of_ble_eq_true rfl) (Nat.le_of_ble_eq_true rfl) rfl rfl ?_
    refine s_41q X ?_
    refine r_icmp_ge k_110_25 rfl (fun c_25 => ?_) (fun z => absurd (nI_le (show np ≤ q by omega) (by omega)) z)
    refine r_aload_n k_110_53 rfl ?_
    refine r_callv1 m_110 k_110_54 cl_7_201 m_104 (by decide) rfl rfl (Nat.le_of_ble_eq_true rfl) (Nat.le_of_ble_eq_true rfl) rfl rfl ?_
    refine s_104 X ?_
    exact hm_T.ret m_110 k_110_57 rfl (hQ h X (hm_lo.rfl2 h))
  | succ j ih =>
    intro q k h X hi hQ
    have h16 := X.np16
    refine r_iload_n k_110_17 rfl ?_
    refine r_aload_n k_110_18 rfl ?_
    refine r_get m_110 k_110_19 fl_7_69 rfl rfl ?_
    refine r_callv1 m_110 k_110_22 cl_7_124 m_41 (by decide) rfl rfl (Nat.le_of_ble_eq_true rfl) (Nat.le_of_ble_eq_true rfl) rfl rfl ?_
    refine s_41q X ?_
    refine r_icmp_ge k_110_25 rfl (fun z => absurd z (nI_ge (show q < np by omega) (by omega))) (fun c_25 => ?_)
    refine r_aload_n k_110_28 rfl ?_
    refine r_get m_110 k_110_29 fl_7_69 rfl rfl ?_
    refine r_iload_n k_110_32 rfl ?_
    refine r_callv2 m_110 k_110_33 cl_7_128 m_42 (by decide) rfl rfl (Nat.le_of_ble_eq_true rfl) (Nat.le_of_ble_eq_true rfl) rfl rfl ?_
    refine s_42q X (q := q) (by omega) ?_
    refine r_cast m_110 k_110_36 nl_7_261 (rD_4 X (by omega)) ?_
    refine r_iload_n k_110_39 rfl ?_
    refine r_aload_n k_110_40 rfl ?_
    refine r_get m_110 k_110_41 fl_7_72 rfl rfl ?_
    refine r_callv3 m_110 k_110_44 cl_7_274 m_111 (by decide) rfl rfl (Nat.le_of_ble_eq_true rfl) (Nat.le_of_ble_eq_true rfl) (rD_4 X (by omega)) rfl ?_
    refine s_111 X (q := q) (by omega) hN (fun h2 X2 hl => ?_)
    refine r_iincn k_110_47 rfl (nI_inc q) rfl ?_
    refine r_goto k_110_50 rfl ?_
    exact ih (q + 1) _ h2 X2 (by omega) (fun h3 X3 hl3 => hQ h3 X3 (hl.tr hl3))
set_option maxRecDepth 20000 in
theorem s_110_out {d n s : Nat} {k : hm_M} {ad : hm_AD} {w : hm_W} {h : Nat → Option va_E} {Q : Option Value → hm_H → Prop} {x : Int32} (hx : ¬ (0 ≤ x.toInt ∧ x.toInt ≤ 400)) (hQ : Q (some (.int (-1002))) (hm_hC k ad w h n s)) : hm_T (d + 4) 110 0 [.ref 4, .int x, .retAddr 0] [] (hm_hC k ad w h n s) Q := by
  refine r_iload_n k_110_0 rfl ?_
  refine r_iconst k_110_1 ci_0 ?_
  refine r_sipush k_110_2 cs_400 ?_
  refine r_calls3 m_110 k_110_5 cl_7_78 m_13 (by decide) rfl rfl (Nat.le_of_ble_eq_true rfl) (Nat.le_of_ble_eq_true rfl) ?_
  refine s_13 ?_
  rw [show (nI 0).toInt = 0 by decide +kernel, show (nI 400).toInt = 400 by decide +kernel]
  rw [if_neg hx]
  refine r_if_ne k_110_8 rfl (fun z => absurd z (fun z => z rfl)) (fun c_8 => ?_)
  refine r_sipush k_110_11 cs_m1002 ?_
  exact hm_T.ret m_110 k_110_14 rfl hQ
set_option maxRecDepth 20000 in
theorem s_110 {d n s : Nat} {k : hm_M} {ad : hm_AD} {g : Nat → Nat × Nat} {w : hm_W} {nc np : Nat} {h : Nat → Option va_E} {Q : Option Value → hm_H → Prop} (X : hm_D k ad g nc np n h) {N : Nat} (hN : N ≤ 400) (hQ : ∀ h2, hm_D (hc_dy N np 0 k) ad g nc np n h2 → hm_lo h h2 → Q (some (.int (hm_sg (hc_dy N np 0 k 20) np))) (hm_hC (hc_dy N np 0 k) ad w h2 n s)) : hm_T (d + 4) 110 0 [.ref 4, .int (nI N), .retAddr 0] [] (hm_hC k ad w h n s) Q := by
  refine r_iload_n k_110_0 rfl ?_
  refine r_iconst k_110_1 ci_0 ?_
  refine r_sipush k_110_2 cs_400 ?_
  refine r_calls3 m_110 k_110_5 cl_7_78 m_13 (by decide) rfl rfl (Nat.le_of_ble_eq_true rfl) (Nat.le_of_ble_eq_true rfl) ?_
  refine s_13 ?_
  rw [show (nI 0).toInt = 0 by decide +kernel, show (nI 400).toInt = 400 by decide +kernel]
  rw [if_pos (by rw [nI_toInt (by omega)]; omega)]
  refine r_if_ne k_110_8 rfl (fun c_8 => ?_) (fun z => absurd (show ¬ (1 : Int32) = 0 by decide) z)
  refine r_iconst k_110_15 ci_0 ?_
  refine r_istore_n k_110_16 rfl ?_
  exact l_110 hN np 0 k h X (by omega) hQ
def hc_pout (k : hm_M) (q : Nat) : Int32 := if k 20 q < k 19 q then k 20 q else k 19 q
def hc_po (k : hm_M) (q : Nat) : hm_M := hm_uM (hm_uM (hm_uM k 20 (upd (k 20) q (k 20 q - hc_pout k q))) 22 (upd (k 22) q (hc_pout k q))) 33 (upd (k 33) q (nI 1))
set_option maxRecDepth 20000 in
theorem s_115 {d n s : Nat} {k : hm_M} {ad : hm_AD} {g : Nat → Nat × Nat} {w : hm_W} {nc np : Nat} {h : Nat → Option va_E} {Q : Option Value → hm_H → Prop} (X : hm_D k ad g nc np n h) {q : Nat} (hq : q < np) (hQ : ∀ h2, hm_D (hc_po k q) ad g nc np n h2 → hm_lo h h2 → Q (some (.int (hc_pout k q))) (hm_hC (hc_po k q) ad w h2 n s)) : hm_T (d + 1) 115 0 [.ref (ad 2 q), .retAddr 0] [] (hm_hC k ad w h n s) Q := by
  obtain ⟨h2, e2, X2, hl2⟩ := wD_20 X (w := w) (s := s) hq (k 20 q - hc_pout k q)
  obtain ⟨h3, e3, X3, hl3⟩ := wD_22 X2 (w := w) (s := s) hq (hc_pout k q)
  obtain ⟨h4, e4, X4, hl4⟩ := wD_33 X3 (w := w) (s := s) hq (nI 1)
  refine r_aload_n k_115_0 rfl ?_
  refine r_get m_115 k_115_1 fl_5_25 (rD_4 X hq) rfl ?_
  refine r_aload_n k_115_4 rfl ?_
  refine r_get m_115 k_115_5 fl_5_9 (rD_4 X hq) rfl ?_
  refine r_calls2 m_115 k_115_8 cl_5_38 m_57 (by decide) rfl rfl (Nat.le_of_ble_eq_true rfl) (Nat.le_of_ble_eq_true rfl) ?_
  refine s_57 ?_
  refine r_istore_n k_115_11 rfl ?_
  refine r_aload_n k_115_12 rfl ?_
  refine r_dup k_115_13 rfl ?_
  refine r_get m_115 k_115_14 fl_5_9 (rD_4 X hq) rfl ?_
  refine r_iload_n k_115_17 rfl ?_
  refine r_isub k_115_18 ?_
  refine r_put m_115 k_115_19 fl_5_9 (rD_4 X hq) (Nat.le_of_ble_eq_true rfl) rfl rfl e2 ?_
  refine r_aload_n k_115_22 rfl ?_
  refine r_iload_n k_115_23 rfl ?_
  refine r_put m_115 k_115_24 fl_5_22 (rD_4 X2 hq) (Nat.le_of_ble_eq_true rfl) rfl rfl e3 ?_
  refine r_aload_n k_115_27 rfl ?_
  refine r_iconst k_115_28 ci_1 ?_
  refine r_put m_115 k_115_29 fl_5_18 (rD_4 X3 hq) (Nat.le_of_ble_eq_true rfl) rfl rfl e4 ?_
  refine r_iload_n k_115_32 rfl ?_
  exact hm_T.ret m_115 k_115_33 rfl (hQ h4 X4 ((hl2.tr hl3).tr hl4))
set_option maxRecDepth 20000 in
theorem s_113_bad {d n s : Nat} {k : hm_M} {ad : hm_AD} {g : Nat → Nat × Nat} {w : hm_W} {nc np : Nat} {h : Nat → Option va_E} {Q : Option Value → hm_H → Prop} (X : hm_D k ad g nc np n h) {pl c : Int32} (hb : ¬ ((0 ≤ pl.toInt ∧ pl.toInt < np) ∧ (0 ≤ c.toInt ∧ c.toInt < nc))) (hQ : Q (some (.int (-1001))) (hm_hC k ad w h n s)) : hm_T (d + 4) 113 0 [.ref 4, .int pl, .int c, .retAddr 0, .retAddr 0] [] (hm_hC k ad w h n s) Q := by
  have h16 := X.np16
  have h17 := X.nc16
  by_cases hp : (0 ≤ pl.toInt ∧ pl.toInt < np)
  · obtain ⟨pk, pkb, rfl, -, -⟩ := hm_nIof2 hp.1 (N := np) (by omega)
    have hc : ¬ (0 ≤ c.toInt ∧ c.toInt < nc) := fun z => hb ⟨hp, z⟩
    refine r_aload_n k_113_0 rfl ?_
    refine r_iload_n k_113_1 rfl ?_
    refine r_callv2 m_113 k_113_2 cl_7_266 m_108 (by decide) rfl rfl (Nat.le_of_ble_eq_true rfl) (Nat.le_of_ble_eq_true rfl) rfl rfl ?_
    refine s_108 X pkb ?_
    refine r_astore_n k_113_5 rfl ?_
    refine r_aload_n k_113_6 rfl ?_
    refine r_iload_n k_113_7 rfl ?_
    refine r_callv2 m_113 k_113_8 cl_7_161 m_75 (by decide) rfl rfl (Nat.le_of_ble_eq_true rfl) (Nat.le_of_ble_eq_true rfl) rfl rfl ?_
    refine s_75_bad X hc ?_
    refine r_astoreN k_113_11 rfl ?_
    refine r_aload_n k_113_13 rfl ?_
    refine r_ifnull k_113_14 ?_
    refine r_aloadN k_113_17 rfl ?_
    refine r_ifnonnullN k_113_19 ?_
    refine r_sipush k_113_22 cs_m1001 ?_
    exact hm_T.ret m_113 k_113_25 rfl hQ
  · by_cases hc : (0 ≤ c.toInt ∧ c.toInt < nc)
    · obtain ⟨ck, ckb, rfl, -, -⟩ := hm_nIof2 hc.1 (N := nc) (by omega)
      refine r_aload_n k_113_0 rfl ?_
      refine r_iload_n k_113_1 rfl ?_
      refine r_callv2 m_113 k_113_2 cl_7_266 m_108 (by decide) rfl rfl (Nat.le_of_ble_eq_true rfl) (Nat.le_of_ble_eq_true rfl) rfl rfl ?_
      refine s_108_bad X hp ?_
      refine r_astore_nN k_113_5 rfl ?_
      refine r_aload_n k_113_6 rfl ?_
      refine r_iload_n k_113_7 rfl ?_
      refine r_callv2 m_113 k_113_8 cl_7_161 m_75 (by decide) rfl rfl (Nat.le_of_ble_eq_true rfl) (Nat.le_of_ble_eq_true rfl) rfl rfl ?_
      refine s_75 X ckb ?_
      refine r_astore k_113_11 rfl ?_
      refine r_aload_nN k_113_13 rfl ?_
      refine r_ifnullN k_113_14 rfl ?_
      refine r_sipush k_113_22 cs_m1001 ?_
      exact hm_T.ret m_113 k_113_25 rfl hQ
    · skip
      refine r_aload_n k_113_0 rfl ?_
      refine r_iload_n k_113_1 rfl ?_
      refine r_callv2 m_113 k_113_2 cl_7_266 m_108 (by decide) rfl rfl (Nat.le_of_ble_eq_true rfl) (Nat.le_of_ble_eq_true rfl) rfl rfl ?_
      refine s_108_bad X hp ?_
      refine r_astore_nN k_113_5 rfl ?_
      refine r_aload_n k_113_6 rfl ?_
      refine r_iload_n k_113_7 rfl ?_
      refine r_callv2 m_113 k_113_8 cl_7_161 m_75 (by decide) rfl rfl (Nat.le_of_ble_eq_true rfl) (Nat.le_of_ble_eq_true rfl) rfl rfl ?_
      refine s_75_bad X hc ?_
      refine r_astoreN k_113_11 rfl ?_
      refine r_aload_nN k_113_13 rfl ?_
      refine r_ifnullN k_113_14 rfl ?_
      refine r_sipush k_113_22 cs_m1001 ?_
      exact hm_T.ret m_113 k_113_25 rfl hQ
set_option maxRecDepth 20000 in
theorem s_113 {d n s : Nat} {k : hm_M} {ad : hm_AD} {g : Nat → Nat × Nat} {w : hm_W} {nc np : Nat} {h : Nat → Option va_E} {Q : Option Value → hm_H → Prop} (X : hm_D k ad g nc np n h) {q c : Nat} (hq : q < np) (hc : c < nc) (hQ0 : ¬ (k 21 q = -1 ∧ k 34 c = -1 ∧ k 33 q = 0) → Q (some (.int (-1003))) (hm_hC k ad w h n s)) (hQ : (k 21 q = -1 ∧ k 34 c = -1 ∧ k 33 q = 0) → ∀ h2, hm_D (hm_uM (hm_uM k 21 (upd (k 21) q (nI c))) 34 (upd (k 34) c (nI q))) ad g nc np n h2 → hm_lo h h2 → Q (some (.int (nI 1))) (hm_hC (hm_uM (hm_uM k 21 (upd (k 21) q (nI c))) 34 (upd (k 34) c (nI q))) ad w h2 n s)) : hm_T (d + 4) 113 0 [.ref 4, .int (nI q), .int (nI c), .retAddr 0, .retAddr 0] [] (hm_hC k ad w h n s) Q := by
  obtain ⟨h2, e2, X2, hl2⟩ := wD_21 X (w := w) (s := s) hq (nI c)
  obtain ⟨h3, e3, X3, hl3⟩ := wD_34 X2 (w := w) (s := s) hc (nI q)
  refine r_aload_n k_113_0 rfl ?_
  refine r_iload_n k_113_1 rfl ?_
  refine r_callv2 m_113 k_113_2 cl_7_266 m_108 (by decide) rfl rfl (Nat.le_of_ble_eq_true rfl) (Nat.le_of_ble_eq_true rfl) rfl rfl ?_
  refine s_108 X hq ?_
  refine r_astore_n k_113_5 rfl ?_
  refine r_aload_n k_113_6 rfl ?_
  refine r_iload_n k_113_7 rfl ?_
  refine r_callv2 m_113 k_113_8 cl_7_161 m_75 (by decide) rfl rfl (Nat.le_of_ble_eq_true rfl) (Nat.le_of_ble_eq_true rfl) rfl rfl ?_
  refine s_75 X hc ?_
  refine r_astore k_113_11 rfl ?_
  refine r_aload_n k_113_13 rfl ?_
  refine r_ifnull k_113_14 ?_
  refine r_aload k_113_17 rfl ?_
  refine r_ifnonnull k_113_19 rfl ?_
  refine r_aload_n k_113_26 rfl ?_
  refine r_get m_113 k_113_27 fl_7_277 (rD_4 X hq) rfl ?_
  refine r_iconst k_113_30 ci_m1 ?_
  refine r_icmp_ne k_113_31 rfl (fun c_31 => ?_) (fun c_31 => ?_)
  · refine r_sipush k_113_50 cs_m1003 ?_
    exact hm_T.ret m_113 k_113_53 rfl (hQ0 (fun z => c_31 z.1))
  · have c_31 := Decidable.of_not_not c_31
    refine r_aload k_113_34 rfl ?_
    refine r_get m_113 k_113_36 fl_7_280 (rD_1 X hc) rfl ?_
    refine r_iconst k_113_39 ci_m1 ?_
    refine r_icmp_ne k_113_40 rfl (fun c_40 => ?_) (fun c_40 => ?_)
    · refine r_sipush k_113_50 cs_m1003 ?_
      exact hm_T.ret m_113 k_113_53 rfl (hQ0 (fun z => c_40 z.2.1))
    · have c_40 := Decidable.of_not_not c_40
      refine r_aload_n k_113_43 rfl ?_
      refine r_get m_113 k_113_44 fl_7_283 (rD_4 X hq) rfl ?_
      refine r_if_eq k_113_47 rfl (fun c_47 => ?_) (fun c_47 => ?_)
      · refine r_aload_n k_113_54 rfl ?_
        refine r_iload_n k_113_55 rfl ?_
        refine r_put m_113 k_113_56 fl_7_277 (rD_4 X hq) (Nat.le_of_ble_eq_true rfl) rfl rfl e2 ?_
        refine r_aload k_113_59 rfl ?_
        refine r_iload_n k_113_61 rfl ?_
        refine r_put m_113 k_113_62 fl_7_280 (rD_1 X2 hc) (Nat.le_of_ble_eq_true rfl) rfl rfl e3 ?_
        refine r_iconst k_113_65 ci_1 ?_
        exact hm_T.ret m_113 k_113_66 rfl (hQ ⟨c_31, c_40, c_47⟩ h3 X3 (hl2.tr hl3))
      · refine r_sipush k_113_50 cs_m1003 ?_
        exact hm_T.ret m_113 k_113_53 rfl (hQ0 (fun z => c_47 z.2.2))
set_option maxRecDepth 20000 in
theorem s_114_bad {d n s : Nat} {k : hm_M} {ad : hm_AD} {g : Nat → Nat × Nat} {w : hm_W} {nc np : Nat} {h : Nat → Option va_E} {Q : Option Value → hm_H → Prop} (X : hm_D k ad g nc np n h) {c : Int32} (hb : ¬ (0 ≤ c.toInt ∧ c.toInt < nc)) (hQ : Q (some (.int (-1001))) (hm_hC k ad w h n s)) : hm_T (d + 4) 114 0 [.ref 4, .int c, .retAddr 0, .retAddr 0, .retAddr 0] [] (hm_hC k ad w h n s) Q := by
  refine r_aload_n k_114_0 rfl ?_
  refine r_iload_n k_114_1 rfl ?_
  refine r_callv2 m_114 k_114_2 cl_7_161 m_75 (by decide) rfl rfl (Nat.le_of_ble_eq_true rfl) (Nat.le_of_ble_eq_true rfl) rfl rfl ?_
  refine s_75_bad X hb ?_
  refine r_astore_nN k_114_5 rfl ?_
  refine r_aload_nN k_114_6 rfl ?_
  refine r_ifnonnullN k_114_7 ?_
  refine r_sipush k_114_10 cs_m1001 ?_
  exact hm_T.ret m_114 k_114_13 rfl hQ

set_option maxRecDepth 20000 in
theorem l_114n {d n s : Nat} {k : hm_M} {ad : hm_AD} {g : Nat → Nat × Nat} {w : hm_W} {nc np : Nat} {h : Nat → Option va_E} {Q : Option Value → hm_H → Prop} (X : hm_D k ad g nc np n h) {c : Nat} (hc : c < nc) {x : Int32} {va vb : Value} (hva : va.category = 1) (hb : ¬ (0 ≤ x.toInt ∧ x.toInt < np)) (hpl : k 34 c = x) (hQ : ∀ h2, hm_D (hm_uM k 16 (upd (k 16) c (nI 1))) ad g nc np n h2 → hm_lo h h2 → Q (some (.int (nI 0))) (hm_hC (hm_uM k 16 (upd (k 16) c (nI 1))) ad w h2 n s)) : hm_T (d + 4) 114 41 [.ref 4, .int (nI c), .ref (ad 1 c), va, vb] [] (hm_hC k ad w h n s) Q := by
  obtain ⟨h2, e2, X2, hl2⟩ := wD_16 X (w := w) (s := s) hc (nI 1)
  refine r_aload_n k_114_41 rfl ?_
  refine r_iconst k_114_42 ci_1 ?_
  refine r_put m_114 k_114_43 fl_7_287 (rD_1 X hc) (Nat.le_of_ble_eq_true rfl) rfl rfl e2 ?_
  refine r_aload_n k_114_46 rfl ?_
  refine r_aload_n k_114_47 rfl ?_
  refine r_get m_114 k_114_48 fl_7_280 (rD_1 X2 hc) rfl ?_
  rw [show (hm_uM k 16 (upd (k 16) c (nI 1))) 34 c = x from hpl]
  refine r_callv2 m_114 k_114_51 cl_7_266 m_108 (by decide) rfl rfl (Nat.le_of_ble_eq_true rfl) (Nat.le_of_ble_eq_true rfl) rfl rfl ?_
  refine s_108_bad X2 hb ?_
  refine r_astore_nN k_114_54 rfl ?_
  refine r_aload_nN k_114_55 rfl ?_
  refine r_ifnonnullN k_114_56 ?_
  refine r_iconst k_114_59 ci_0 ?_
  exact hm_T.ret m_114 k_114_60 rfl (hQ h2 X2 hl2)
set_option maxRecDepth 20000 in
theorem l_114y {d n s : Nat} {k : hm_M} {ad : hm_AD} {g : Nat → Nat × Nat} {w : hm_W} {nc np : Nat} {h : Nat → Option va_E} {Q : Option Value → hm_H → Prop} (X : hm_D k ad g nc np n h) {c q : Nat} (hc : c < nc) {va vb : Value} (hva : va.category = 1) (hq : q < np) (hpl : k 34 c = nI q) (hQ : ∀ h2, hm_D (hm_uM (hc_po (hm_uM k 16 (upd (k 16) c (nI 1))) q) 32 (fun _ => k 32 0 + hc_pout k q)) ad g nc np n h2 → hm_lo h h2 → Q (some (.int (hc_pout k q))) (hm_hC (hm_uM (hc_po (hm_uM k 16 (upd (k 16) c (nI 1))) q) 32 (fun _ => k 32 0 + hc_pout k q)) ad w h2 n s)) : hm_T (d + 4) 114 41 [.ref 4, .int (nI c), .ref (ad 1 c), va, vb] [] (hm_hC k ad w h n s) Q := by
  obtain ⟨h2, e2, X2, hl2⟩ := wD_16 X (w := w) (s := s) hc (nI 1)
  refine r_aload_n k_114_41 rfl ?_
  refine r_iconst k_114_42 ci_1 ?_
  refine r_put m_114 k_114_43 fl_7_287 (rD_1 X hc) (Nat.le_of_ble_eq_true rfl) rfl rfl e2 ?_
  refine r_aload_n k_114_46 rfl ?_
  refine r_aload_n k_114_47 rfl ?_
  refine r_get m_114 k_114_48 fl_7_280 (rD_1 X2 hc) rfl ?_
  rw [show (hm_uM k 16 (upd (k 16) c (nI 1))) 34 c = nI q from hpl]
  refine r_callv2 m_114 k_114_51 cl_7_266 m_108 (by decide) rfl rfl (Nat.le_of_ble_eq_true rfl) (Nat.le_of_ble_eq_true rfl) rfl rfl ?_
  refine s_108 X2 hq ?_
  refine r_astore_n k_114_54 rfl ?_
  refine r_aload_n k_114_55 rfl ?_
  refine r_ifnonnull k_114_56 rfl ?_
  refine r_aload_n k_114_61 rfl ?_
  refine r_callv1 m_114 k_114_62 cl_7_290 m_115 (by decide) rfl rfl (Nat.le_of_ble_eq_true rfl) (Nat.le_of_ble_eq_true rfl) (rD_4 X2 hq) rfl ?_
  refine s_115 X2 hq (fun h3 X3 hl3 => ?_)
  refine r_istore k_114_65 rfl ?_
  refine r_aload_n k_114_67 rfl ?_
  refine r_dup k_114_68 rfl ?_
  refine r_get m_114 k_114_69 fl_7_75 rfl rfl ?_
  refine r_iload k_114_72 rfl ?_
  refine r_iadd k_114_74 ?_
  refine r_put m_114 k_114_75 fl_7_75 rfl (Nat.le_of_ble_eq_true rfl) rfl rfl (wC_32 _) ?_
  refine r_iload k_114_78 rfl ?_
  exact hm_T.ret m_114 k_114_80 rfl (hQ h3 (X3.st (fun j hj => if_neg (by omega)) ⟨rfl, rfl, rfl, rfl, rfl, rfl, rfl, rfl, rfl, rfl, rfl, rfl, rfl⟩) (hl2.tr hl3))
set_option maxRecDepth 20000 in
theorem s_114n {d n s : Nat} {k : hm_M} {ad : hm_AD} {g : Nat → Nat × Nat} {w : hm_W} {nc np : Nat} {h : Nat → Option va_E} {Q : Option Value → hm_H → Prop} (X : hm_D k ad g nc np n h) {c : Nat} (hc : c < nc) (hQ0 : (¬ k 16 c = 0 ∨ (k (100 + 2 * c) 2 = -1 ∧ k (100 + 2 * c) 3 = -1)) → Q (some (.int (-1003))) (hm_hC k ad w h n s)) {x : Int32} (hb : ¬ (0 ≤ x.toInt ∧ x.toInt < np)) (hpl : k 34 c = x) (hQ : ¬ (¬ k 16 c = 0 ∨ (k (100 + 2 * c) 2 = -1 ∧ k (100 + 2 * c) 3 = -1)) → ∀ h2, hm_D (hm_uM k 16 (upd (k 16) c (nI 1))) ad g nc np n h2 → hm_lo h h2 → Q (some (.int (nI 0))) (hm_hC (hm_uM k 16 (upd (k 16) c (nI 1))) ad w h2 n s)) : hm_T (d + 4) 114 0 [.ref 4, .int (nI c), .retAddr 0, .retAddr 0, .retAddr 0] [] (hm_hC k ad w h n s) Q := by
  refine r_aload_n k_114_0 rfl ?_
  refine r_iload_n k_114_1 rfl ?_
  refine r_callv2 m_114 k_114_2 cl_7_161 m_75 (by decide) rfl rfl (Nat.le_of_ble_eq_true rfl) (Nat.le_of_ble_eq_true rfl) rfl rfl ?_
  refine s_75 X hc ?_
  refine r_astore_n k_114_5 rfl ?_
  refine r_aload_n k_114_6 rfl ?_
  refine r_ifnonnull k_114_7 rfl ?_
  refine r_aload_n k_114_14 rfl ?_
  refine r_get m_114 k_114_15 fl_7_287 (rD_1 X hc) rfl ?_
  refine r_if_ne k_114_18 rfl (fun c_18 => ?_) (fun c_18 => ?_)
  · refine r_sipush k_114_37 cs_m1003 ?_
    exact hm_T.ret m_114 k_114_40 rfl (hQ0 (Or.inl c_18))
  · have c_18 := Decidable.of_not_not c_18
    refine r_aload_n k_114_21 rfl ?_
    refine r_iconst k_114_22 ci_2 ?_
    refine r_callv2 m_114 k_114_23 cl_7_176 m_48 (by decide) rfl rfl (Nat.le_of_ble_eq_true rfl) (Nat.le_of_ble_eq_true rfl) (rD_1 X hc) rfl ?_
    refine s_48 X hc (t := 2) (by decide) ?_
    refine r_if_ne k_114_26 rfl (fun c_26 => ?_) (fun c_26 => ?_)
    · have c_26 := hm_bi1 c_26
      have c_26 := of_decide_eq_true c_26
      exact l_114n X hc rfl hb hpl (hQ (fun z => z.elim (fun y => y c_18) (fun y => c_26 y.1)))
    · have c_26 := hm_bi0 (Decidable.of_not_not c_26)
      have c_26 := Decidable.of_not_not (of_decide_eq_false c_26)
      refine r_aload_n k_114_29 rfl ?_
      refine r_iconst k_114_30 ci_3 ?_
      refine r_callv2 m_114 k_114_31 cl_7_176 m_48 (by decide) rfl rfl (Nat.le_of_ble_eq_true rfl) (Nat.le_of_ble_eq_true rfl) (rD_1 X hc) rfl ?_
      refine s_48 X hc (t := 3) (by decide) ?_
      refine r_if_ne k_114_34 rfl (fun c_34 => ?_) (fun c_34 => ?_)
      · have c_34 := hm_bi1 c_34
        have c_34 := of_decide_eq_true c_34
        exact l_114n X hc rfl hb hpl (hQ (fun z => z.elim (fun y => y c_18) (fun y => c_34 y.2)))
      · have c_34 := hm_bi0 (Decidable.of_not_not c_34)
        have c_34 := Decidable.of_not_not (of_decide_eq_false c_34)
        refine r_sipush k_114_37 cs_m1003 ?_
        exact hm_T.ret m_114 k_114_40 rfl (hQ0 (Or.inr ⟨c_26, c_34⟩))
set_option maxRecDepth 20000 in
theorem s_114y {d n s : Nat} {k : hm_M} {ad : hm_AD} {g : Nat → Nat × Nat} {w : hm_W} {nc np : Nat} {h : Nat → Option va_E} {Q : Option Value → hm_H → Prop} (X : hm_D k ad g nc np n h) {c : Nat} (hc : c < nc) (hQ0 : (¬ k 16 c = 0 ∨ (k (100 + 2 * c) 2 = -1 ∧ k (100 + 2 * c) 3 = -1)) → Q (some (.int (-1003))) (hm_hC k ad w h n s)) {q : Nat} (hq : q < np) (hpl : k 34 c = nI q) (hQ : ¬ (¬ k 16 c = 0 ∨ (k (100 + 2 * c) 2 = -1 ∧ k (100 + 2 * c) 3 = -1)) → ∀ h2, hm_D (hm_uM (hc_po (hm_uM k 16 (upd (k 16) c (nI 1))) q) 32 (fun _ => k 32 0 + hc_pout k q)) ad g nc np n h2 → hm_lo h h2 → Q (some (.int (hc_pout k q))) (hm_hC (hm_uM (hc_po (hm_uM k 16 (upd (k 16) c (nI 1))) q) 32 (fun _ => k 32 0 + hc_pout k q)) ad w h2 n s)) : hm_T (d + 4) 114 0 [.ref 4, .int (nI c), .retAddr 0, .retAddr 0, .retAddr 0] [] (hm_hC k ad w h n s) Q := by
  refine r_aload_n k_114_0 rfl ?_
  refine r_iload_n k_114_1 rfl ?_
  refine r_callv2 m_114 k_114_2 cl_7_161 m_75 (by decide) rfl rfl (Nat.le_of_ble_eq_true rfl) (Nat.le_of_ble_eq_true rfl) rfl rfl ?_
  refine s_75 X hc ?_
  refine r_astore_n k_114_5 rfl ?_
  refine r_aload_n k_114_6 rfl ?_
  refine r_ifnonnull k_114_7 rfl ?_
  refine r_aload_n k_114_14 rfl ?_
  refine r_get m_114 k_114_15 fl_7_287 (rD_1 X hc) rfl ?_
  refine r_if_ne k_114_18 rfl (fun c_18 => ?_) (fun c_18 => ?_)
  · refine r_sipush k_114_37 cs_m1003 ?_
    exact hm_T.ret m_114 k_114_40 rfl (hQ0 (Or.inl c_18))
  · have c_18 := Decidable.of_not_not c_18
    refine r_aload_n k_114_21 rfl ?_
    refine r_iconst k_114_22 ci_2 ?_
    refine r_callv2 m_114 k_114_23 cl_7_176 m_48 (by decide) rfl rfl (Nat.le_of_ble_eq_true rfl) (Nat.le_of_ble_eq_true rfl) (rD_1 X hc) rfl ?_
    refine s_48 X hc (t := 2) (by decide) ?_
    refine r_if_ne k_114_26 rfl (fun c_26 => ?_) (fun c_26 => ?_)
    · have c_26 := hm_bi1 c_26
      have c_26 := of_decide_eq_true c_26
      exact l_114y X hc rfl hq hpl (hQ (fun z => z.elim (fun y => y c_18) (fun y => c_26 y.1)))
    · have c_26 := hm_bi0 (Decidable.of_not_not c_26)
      have c_26 := Decidable.of_not_not (of_decide_eq_false c_26)
      refine r_aload_n k_114_29 rfl ?_
      refine r_iconst k_114_30 ci_3 ?_
      refine r_callv2 m_114 k_114_31 cl_7_176 m_48 (by decide) rfl rfl (Nat.le_of_ble_eq_true rfl) (Nat.le_of_ble_eq_true rfl) (rD_1 X hc) rfl ?_
      refine s_48 X hc (t := 3) (by decide) ?_
      refine r_if_ne k_114_34 rfl (fun c_34 => ?_) (fun c_34 => ?_)
      · have c_34 := hm_bi1 c_34
        have c_34 := of_decide_eq_true c_34
        exact l_114y X hc rfl hq hpl (hQ (fun z => z.elim (fun y => y c_18) (fun y => c_34 y.2)))
      · have c_34 := hm_bi0 (Decidable.of_not_not c_34)
        have c_34 := Decidable.of_not_not (of_decide_eq_false c_34)
        refine r_sipush k_114_37 cs_m1003 ?_
        exact hm_T.ret m_114 k_114_40 rfl (hQ0 (Or.inr ⟨c_26, c_34⟩))
