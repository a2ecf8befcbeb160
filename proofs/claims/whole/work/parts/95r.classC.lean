def hm_ppk (P : Nat → Int32) (wd hour : Int32) (i : Nat) : Bool := !hm_has wd (nI i) || (!decide (P i = -1) && decide (P i ≤ hour))
def hm_stk (H : Nat → Int32) (wd hour : Int32) (i : Nat) : Bool := !hm_has wd (nI i) || (!decide (H i = -1) && decide (H i < hour))
theorem hm_all_t {P : Nat → Bool} {j i : Nat} (h : P i = true) : hm_all P (j + 1) i = hm_all P j (i + 1) := by
  show (P i && _) = _
  rw [h]
  rfl
theorem hm_all_f {P : Nat → Bool} {j i : Nat} (h : P i = false) : hm_all P (j + 1) i = false := by
  show (P i && _) = _
  rw [h]
  rfl
set_option maxRecDepth 20000 in
theorem l_51 {d n s : Nat} {k : hm_M} {ad : hm_AD} {g : Nat → Nat × Nat} {w : hm_W} {nc np : Nat} {h : Nat → Option va_E} {Q : Option Value → hm_H → Prop} (X : hm_D k ad g nc np n h) {c : Nat} {wd hour : Int32} (hc : c < nc) : ∀ (j i : Nat), i + j = 6 → Q (some (.int (hm_bi (hm_all (hm_ppk (k (101 + 2 * c)) wd hour) j i)))) (hm_hC k ad w h n s) → hm_T (d + 1) 51 2 [.ref (ad 1 c), .int wd, .int hour, .int (nI i)] [] (hm_hC k ad w h n s) Q := by
  intro j
  induction j with
  | zero =>
    intro i hi hQ
    refine r_iload_n k_51_2 rfl ?_
    refine r_bipush k_51_3 cb_6 ?_
    refine r_icmp_ge k_51_5 rfl (fun c_5 => ?_) (fun z => absurd (nI_le (show 6 ≤ i by omega) (by omega)) z)
    refine r_iconst k_51_44 ci_1 ?_
    exact hm_T.ret m_51 k_51_45 rfl hQ
  | succ j ih =>
    intro i hi hQ
    refine r_iload_n k_51_2 rfl ?_
    refine r_bipush k_51_3 cb_6 ?_
    refine r_icmp_ge k_51_5 rfl (fun z => absurd z (nI_ge (show i < 6 by omega) (by omega))) (fun c_5 => ?_)
    refine r_iload_n k_51_8 rfl ?_
    refine r_iload_n k_51_9 rfl ?_
    refine r_calls2 m_51 k_51_10 cl_1_80 m_21 (by decide) rfl rfl (Nat.le_of_ble_eq_true rfl) (Nat.le_of_ble_eq_true rfl) ?_
    refine s_21 ?_
    refine r_if_eq k_51_13 rfl (fun c_13 => ?_) (fun c_13 => ?_)
    · have c_13 := hm_bi0 c_13
      refine r_iincn k_51_38 rfl (nI_inc i) rfl ?_
      refine r_goto k_51_41 rfl ?_
      refine ih (i + 1) (by omega) ?_
      rw [hm_all_t (show hm_ppk (k (101 + 2 * c)) wd hour i = true by unfold hm_ppk; rw [c_13]; rfl)] at hQ
      exact hQ
    · have c_13 := hm_bi1 c_13
      refine r_aload_n k_51_16 rfl ?_
      refine r_get m_51 k_51_17 fl_1_9 (rD_1 X hc) rfl ?_
      refine r_iload_n k_51_20 rfl ?_
      refine r_ialdn (k := i) k_51_21 (rD_2 X hc) (Or.inl rfl) rfl (by omega) (by decide) ?_
      refine r_iconst k_51_22 ci_m1 ?_
      refine r_icmp_eq k_51_23 rfl (fun c_23 => ?_) (fun c_23 => ?_)
      · refine r_iconst k_51_36 ci_0 ?_
        exact hm_T.ret m_51 k_51_37 rfl (by rw [hm_all_f (show hm_ppk (k (101 + 2 * c)) wd hour i = false by unfold hm_ppk; rw [c_13, decide_eq_true c_23]; rfl)] at hQ; exact hQ)
      · refine r_aload_n k_51_26 rfl ?_
        refine r_get m_51 k_51_27 fl_1_9 (rD_1 X hc) rfl ?_
        refine r_iload_n k_51_30 rfl ?_
        refine r_ialdn (k := i) k_51_31 (rD_2 X hc) (Or.inl rfl) rfl (by omega) (by decide) ?_
        refine r_iload_n k_51_32 rfl ?_
        refine r_icmp_le k_51_33 rfl (fun c_33 => ?_) (fun c_33 => ?_)
        · refine r_iincn k_51_38 rfl (nI_inc i) rfl ?_
          refine r_goto k_51_41 rfl ?_
          refine ih (i + 1) (by omega) ?_
          rw [hm_all_t (show hm_ppk (k (101 + 2 * c)) wd hour i = true by unfold hm_ppk; rw [c_13, decide_eq_false c_23, decide_eq_true c_33]; rfl)] at hQ
          exact hQ
        · refine r_iconst k_51_36 ci_0 ?_
          exact hm_T.ret m_51 k_51_37 rfl (by rw [hm_all_f (show hm_ppk (k (101 + 2 * c)) wd hour i = false by unfold hm_ppk; rw [c_13, decide_eq_false c_23, decide_eq_false c_33]; rfl)] at hQ; exact hQ)
set_option maxRecDepth 20000 in
theorem s_51 {d n s : Nat} {k : hm_M} {ad : hm_AD} {g : Nat → Nat × Nat} {w : hm_W} {nc np : Nat} {h : Nat → Option va_E} {Q : Option Value → hm_H → Prop} (X : hm_D k ad g nc np n h) {c : Nat} {wd hour : Int32} (hc : c < nc) (hQ : Q (some (.int (hm_bi (hm_all (hm_ppk (k (101 + 2 * c)) wd hour) 6 0)))) (hm_hC k ad w h n s)) : hm_T (d + 1) 51 0 [.ref (ad 1 c), .int wd, .int hour, .retAddr 0] [] (hm_hC k ad w h n s) Q := by
  refine r_iconst k_51_0 ci_0 ?_
  refine r_istore_n k_51_1 rfl ?_
  exact l_51 X hc 6 0 (by omega) hQ
set_option maxRecDepth 20000 in
theorem l_53 {d n s : Nat} {k : hm_M} {ad : hm_AD} {g : Nat → Nat × Nat} {w : hm_W} {nc np : Nat} {h : Nat → Option va_E} {Q : Option Value → hm_H → Prop} (X : hm_D k ad g nc np n h) {c : Nat} {wd hour : Int32} (hc : c < nc) : ∀ (j i : Nat), i + j = 4 → Q (some (.int (hm_bi (hm_all (hm_stk (k (100 + 2 * c)) wd hour) j i)))) (hm_hC k ad w h n s) → hm_T (d + 1) 53 2 [.ref (ad 1 c), .int wd, .int hour, .int (nI i)] [] (hm_hC k ad w h n s) Q := by
  intro j
  induction j with
  | zero =>
    intro i hi hQ
    refine r_iload_n k_53_2 rfl ?_
    refine r_iconst k_53_3 ci_4 ?_
    refine r_icmp_ge k_53_4 rfl (fun c_4 => ?_) (fun z => absurd (nI_le (show 4 ≤ i by omega) (by omega)) z)
    refine r_iconst k_53_41 ci_1 ?_
    exact hm_T.ret m_53 k_53_42 rfl hQ
  | succ j ih =>
    intro i hi hQ
    refine r_iload_n k_53_2 rfl ?_
    refine r_iconst k_53_3 ci_4 ?_
    refine r_icmp_ge k_53_4 rfl (fun z => absurd z (nI_ge (show i < 4 by omega) (by omega))) (fun c_4 => ?_)
    refine r_iload_n k_53_7 rfl ?_
    refine r_iload_n k_53_8 rfl ?_
    refine r_calls2 m_53 k_53_9 cl_1_80 m_21 (by decide) rfl rfl (Nat.le_of_ble_eq_true rfl) (Nat.le_of_ble_eq_true rfl) ?_
    refine s_21 ?_
    refine r_if_eq k_53_12 rfl (fun c_12 => ?_) (fun c_12 => ?_)
    · have c_12 := hm_bi0 c_12
      refine r_iincn k_53_35 rfl (nI_inc i) rfl ?_
      refine r_goto k_53_38 rfl ?_
      refine ih (i + 1) (by omega) ?_
      rw [hm_all_t (show hm_stk (k (100 + 2 * c)) wd hour i = true by unfold hm_stk; rw [c_12]; rfl)] at hQ
      exact hQ
    · have c_12 := hm_bi1 c_12
      refine r_aload_n k_53_15 rfl ?_
      refine r_iload_n k_53_16 rfl ?_
      refine r_callv2 m_53 k_53_17 cl_1_44 m_48 (by decide) rfl rfl (Nat.le_of_ble_eq_true rfl) (Nat.le_of_ble_eq_true rfl) (rD_1 X hc) rfl ?_
      refine s_48 X hc (t := i) (by omega) ?_
      refine r_if_eq k_53_20 rfl (fun c_20 => ?_) (fun c_20 => ?_)
      · have c_20 := hm_bi0 c_20
        have c_20 := Decidable.of_not_not (of_decide_eq_false c_20)
        refine r_iconst k_53_33 ci_0 ?_
        exact hm_T.ret m_53 k_53_34 rfl (by rw [hm_all_f (show hm_stk (k (100 + 2 * c)) wd hour i = false by unfold hm_stk; rw [c_12, decide_eq_true c_20]; rfl)] at hQ; exact hQ)
      · have c_20 := hm_bi1 c_20
        have c_20 := of_decide_eq_true c_20
        refine r_aload_n k_53_23 rfl ?_
        refine r_get m_53 k_53_24 fl_1_15 (rD_1 X hc) rfl ?_
        refine r_iload_n k_53_27 rfl ?_
        refine r_ialdn (k := i) k_53_28 (rD_3 X hc) (Or.inl rfl) rfl (by omega) (by decide) ?_
        refine r_iload_n k_53_29 rfl ?_
        refine r_icmp_lt k_53_30 rfl (fun c_30 => ?_) (fun c_30 => ?_)
        · refine r_iincn k_53_35 rfl (nI_inc i) rfl ?_
          refine r_goto k_53_38 rfl ?_
          refine ih (i + 1) (by omega) ?_
          rw [hm_all_t (show hm_stk (k (100 + 2 * c)) wd hour i = true by unfold hm_stk; rw [c_12, decide_eq_false c_20, decide_eq_true c_30]; rfl)] at hQ
          exact hQ
        · refine r_iconst k_53_33 ci_0 ?_
          exact hm_T.ret m_53 k_53_34 rfl (by rw [hm_all_f (show hm_stk (k (100 + 2 * c)) wd hour i = false by unfold hm_stk; rw [c_12, decide_eq_false c_20, decide_eq_false c_30]; rfl)] at hQ; exact hQ)
set_option maxRecDepth 20000 in
theorem s_53 {d n s : Nat} {k : hm_M} {ad : hm_AD} {g : Nat → Nat × Nat} {w : hm_W} {nc np : Nat} {h : Nat → Option va_E} {Q : Option Value → hm_H → Prop} (X : hm_D k ad g nc np n h) {c : Nat} {wd hour : Int32} (hc : c < nc) (hQ : Q (some (.int (hm_bi (hm_all (hm_stk (k (100 + 2 * c)) wd hour) 4 0)))) (hm_hC k ad w h n s)) : hm_T (d + 1) 53 0 [.ref (ad 1 c), .int wd, .int hour, .retAddr 0] [] (hm_hC k ad w h n s) Q := by
  refine r_iconst k_53_0 ci_0 ?_
  refine r_istore_n k_53_1 rfl ?_
  exact l_53 X hc 4 0 (by omega) hQ
def hm_re1 (e a : Int32) : Int32 := if a = -1 then e else if a < e then a else e
def hm_ren (a b : Int32) : Int32 := hm_re1 (hm_re1 (nI 400) a) b
set_option maxRecDepth 20000 in
theorem s_56 {d n s : Nat} {k : hm_M} {ad : hm_AD} {g : Nat → Nat × Nat} {w : hm_W} {nc np : Nat} {h : Nat → Option va_E} {Q : Option Value → hm_H → Prop} (X : hm_D k ad g nc np n h) {c : Nat} (hc : c < nc) (hQ : Q (some (.int (hm_ren (k (100 + 2 * c) 2) (k (100 + 2 * c) 3)))) (hm_hC k ad w h n s)) : hm_T (d + 1) 56 0 [.ref (ad 1 c), .retAddr 0] [] (hm_hC k ad w h n s) Q := by
  refine r_sipush k_56_0 cs_400 ?_
  refine r_istore_n k_56_3 rfl ?_
  refine r_aload_n k_56_4 rfl ?_
  refine r_iconst k_56_5 ci_2 ?_
  refine r_callv2 m_56 k_56_6 cl_1_44 m_48 (by decide) rfl rfl (Nat.le_of_ble_eq_true rfl) (Nat.le_of_ble_eq_true rfl) (rD_1 X hc) rfl ?_
  refine s_48 X hc (t := 2) (by decide) ?_
  refine r_if_eq k_56_9 rfl (fun c_9 => ?_) (fun c_9 => ?_)
  · have c_9 := hm_bi0 c_9
    have c_9 := Decidable.of_not_not (of_decide_eq_false c_9)
    refine r_iload_n k_56_25 rfl ?_
    refine r_istore_n k_56_26 rfl ?_
    refine r_aload_n k_56_27 rfl ?_
    refine r_iconst k_56_28 ci_3 ?_
    refine r_callv2 m_56 k_56_29 cl_1_44 m_48 (by decide) rfl rfl (Nat.le_of_ble_eq_true rfl) (Nat.le_of_ble_eq_true rfl) (rD_1 X hc) rfl ?_
    refine s_48 X hc (t := 3) (by decide) ?_
    refine r_if_eq k_56_32 rfl (fun c_32 => ?_) (fun c_32 => ?_)
    · have c_32 := hm_bi0 c_32
      have c_32 := Decidable.of_not_not (of_decide_eq_false c_32)
      refine r_iload_n k_56_48 rfl ?_
      refine r_istore_n k_56_49 rfl ?_
      refine r_iload_n k_56_50 rfl ?_
      exact hm_T.ret m_56 k_56_51 rfl (by unfold hm_ren at hQ; rw [show hm_re1 (nI 400) (k (100 + 2 * c) 2) = _ from if_pos c_9] at hQ; unfold hm_re1 at hQ; rw [if_pos c_32] at hQ; exact hQ)
    · have c_32 := hm_bi1 c_32
      have c_32 := of_decide_eq_true c_32
      refine r_iload_n k_56_35 rfl ?_
      refine r_aload_n k_56_36 rfl ?_
      refine r_get m_56 k_56_37 fl_1_15 (rD_1 X hc) rfl ?_
      refine r_iconst k_56_40 ci_3 ?_
      refine r_ialdn (k := 3) k_56_41 (rD_3 X hc) (Or.inl rfl) rfl (by decide) (by decide) ?_
      refine r_calls2 m_56 k_56_42 cl_1_48 m_57 (by decide) rfl rfl (Nat.le_of_ble_eq_true rfl) (Nat.le_of_ble_eq_true rfl) ?_
      refine s_57 ?_
      refine r_goto k_56_45 rfl ?_
      refine r_istore_n k_56_49 rfl ?_
      refine r_iload_n k_56_50 rfl ?_
      exact hm_T.ret m_56 k_56_51 rfl (by unfold hm_ren at hQ; rw [show hm_re1 (nI 400) (k (100 + 2 * c) 2) = _ from if_pos c_9] at hQ; unfold hm_re1 at hQ; rw [if_neg c_32] at hQ; exact hQ)
  · have c_9 := hm_bi1 c_9
    have c_9 := of_decide_eq_true c_9
    refine r_iload_n k_56_12 rfl ?_
    refine r_aload_n k_56_13 rfl ?_
    refine r_get m_56 k_56_14 fl_1_15 (rD_1 X hc) rfl ?_
    refine r_iconst k_56_17 ci_2 ?_
    refine r_ialdn (k := 2) k_56_18 (rD_3 X hc) (Or.inl rfl) rfl (by decide) (by decide) ?_
    refine r_calls2 m_56 k_56_19 cl_1_48 m_57 (by decide) rfl rfl (Nat.le_of_ble_eq_true rfl) (Nat.le_of_ble_eq_true rfl) ?_
    refine s_57 ?_
    refine r_goto k_56_22 rfl ?_
    refine r_istore_n k_56_26 rfl ?_
    refine r_aload_n k_56_27 rfl ?_
    refine r_iconst k_56_28 ci_3 ?_
    refine r_callv2 m_56 k_56_29 cl_1_44 m_48 (by decide) rfl rfl (Nat.le_of_ble_eq_true rfl) (Nat.le_of_ble_eq_true rfl) (rD_1 X hc) rfl ?_
    refine s_48 X hc (t := 3) (by decide) ?_
    refine r_if_eq k_56_32 rfl (fun c_32 => ?_) (fun c_32 => ?_)
    · have c_32 := hm_bi0 c_32
      have c_32 := Decidable.of_not_not (of_decide_eq_false c_32)
      refine r_iload_n k_56_48 rfl ?_
      refine r_istore_n k_56_49 rfl ?_
      refine r_iload_n k_56_50 rfl ?_
      exact hm_T.ret m_56 k_56_51 rfl (by unfold hm_ren at hQ; rw [show hm_re1 (nI 400) (k (100 + 2 * c) 2) = _ from if_neg c_9] at hQ; unfold hm_re1 at hQ; rw [if_pos c_32] at hQ; exact hQ)
    · have c_32 := hm_bi1 c_32
      have c_32 := of_decide_eq_true c_32
      refine r_iload_n k_56_35 rfl ?_
      refine r_aload_n k_56_36 rfl ?_
      refine r_get m_56 k_56_37 fl_1_15 (rD_1 X hc) rfl ?_
      refine r_iconst k_56_40 ci_3 ?_
      refine r_ialdn (k := 3) k_56_41 (rD_3 X hc) (Or.inl rfl) rfl (by decide) (by decide) ?_
      refine r_calls2 m_56 k_56_42 cl_1_48 m_57 (by decide) rfl rfl (Nat.le_of_ble_eq_true rfl) (Nat.le_of_ble_eq_true rfl) ?_
      refine s_57 ?_
      refine r_goto k_56_45 rfl ?_
      refine r_istore_n k_56_49 rfl ?_
      refine r_iload_n k_56_50 rfl ?_
      exact hm_T.ret m_56 k_56_51 rfl (by unfold hm_ren at hQ; rw [show hm_re1 (nI 400) (k (100 + 2 * c) 2) = _ from if_neg c_9] at hQ; unfold hm_re1 at hQ; rw [if_neg c_32] at hQ; exact hQ)
def hm_hbl (k : hm_M) (c q t : Nat) (hour : Int32) : Int32 := if k 11 c < hour then (if k (60 + 4 * q + t) 3 = nI 1 then nI 3 else if hm_all (hm_ppk (k (101 + 2 * c)) (k (60 + 4 * q + t) 0) hour) 6 0 = true then (if hm_wb (k (60 + 4 * q + t) 1) (k (60 + 4 * q + t) 2) (hour - k 11 c) = true then (if hm_all (hm_stk (k (100 + 2 * c)) (k (60 + 4 * q + t) 4) hour) 4 0 = true then nI 0 else nI 6) else nI 5) else nI 4) else nI 2
set_option maxRecDepth 20000 in
theorem s_49 {d n s : Nat} {k : hm_M} {ad : hm_AD} {g : Nat → Nat × Nat} {w : hm_W} {nc np : Nat} {h : Nat → Option va_E} {Q : Option Value → hm_H → Prop} (X : hm_D k ad g nc np n h) {c : Nat} (hc : c < nc) {q t : Nat} (hq : q < 5) (ht : t < 4) {hour : Int32} (hQ : Q (some (.int (hm_hbl k c q t hour))) (hm_hC k ad w h n s)) : hm_T (d + 2) 49 0 [.ref (ad 1 c), .ref (hm_lb q), .int (nI t), .int hour] [] (hm_hC k ad w h n s) Q := by
  refine r_iload_n k_49_0 rfl ?_
  refine r_aload_n k_49_1 rfl ?_
  refine r_get m_49 k_49_2 fl_1_29 (rD_1 X hc) rfl ?_
  refine r_icmp_gt k_49_5 rfl (fun c_5 => ?_) (fun c_5 => ?_)
  · refine r_aload_n k_49_10 rfl ?_
    refine r_iload_n k_49_11 rfl ?_
    refine r_iconst k_49_12 ci_3 ?_
    refine r_callv3 m_49 k_49_13 cl_1_58 m_50 (by decide) rfl rfl (Nat.le_of_ble_eq_true rfl) (Nat.le_of_ble_eq_true rfl) (rC_l0 hq) rfl ?_
    refine s_50 hq ht (i := 3) (by decide) ?_
    refine r_iconst k_49_16 ci_1 ?_
    refine r_icmp_ne k_49_17 rfl (fun c_17 => ?_) (fun c_17 => ?_)
    · refine r_aload_n k_49_22 rfl ?_
      refine r_aload_n k_49_23 rfl ?_
      refine r_iload_n k_49_24 rfl ?_
      refine r_iconst k_49_25 ci_0 ?_
      refine r_callv3 m_49 k_49_26 cl_1_58 m_50 (by decide) rfl rfl (Nat.le_of_ble_eq_true rfl) (Nat.le_of_ble_eq_true rfl) (rC_l0 hq) rfl ?_
      refine s_50 hq ht (i := 0) (by decide) ?_
      refine r_iload_n k_49_29 rfl ?_
      refine r_callv3 m_49 k_49_30 cl_1_63 m_51 (by decide) rfl rfl (Nat.le_of_ble_eq_true rfl) (Nat.le_of_ble_eq_true rfl) (rD_1 X hc) rfl ?_
      refine s_51 X hc ?_
      refine r_if_ne k_49_33 rfl (fun c_33 => ?_) (fun c_33 => ?_)
      · have c_33 := hm_bi1 c_33
        refine r_aload_n k_49_38 rfl ?_
        refine r_iload_n k_49_39 rfl ?_
        refine r_iload_n k_49_40 rfl ?_
        refine r_aload_n k_49_41 rfl ?_
        refine r_get m_49 k_49_42 fl_1_29 (rD_1 X hc) rfl ?_
        refine r_isub k_49_45 ?_
        refine r_callv3 m_49 k_49_46 cl_1_67 m_52 (by decide) rfl rfl (Nat.le_of_ble_eq_true rfl) (Nat.le_of_ble_eq_true rfl) (rC_l0 hq) rfl ?_
        refine s_52 hq ht ?_
        refine r_if_ne k_49_49 rfl (fun c_49 => ?_) (fun c_49 => ?_)
        · have c_49 := hm_bi1 c_49
          refine r_aload_n k_49_54 rfl ?_
          refine r_aload_n k_49_55 rfl ?_
          refine r_iload_n k_49_56 rfl ?_
          refine r_iconst k_49_57 ci_4 ?_
          refine r_callv3 m_49 k_49_58 cl_1_58 m_50 (by decide) rfl rfl (Nat.le_of_ble_eq_true rfl) (Nat.le_of_ble_eq_true rfl) (rC_l0 hq) rfl ?_
          refine s_50 hq ht (i := 4) (by decide) ?_
          refine r_iload_n k_49_61 rfl ?_
          refine r_callv3 m_49 k_49_62 cl_1_70 m_53 (by decide) rfl rfl (Nat.le_of_ble_eq_true rfl) (Nat.le_of_ble_eq_true rfl) (rD_1 X hc) rfl ?_
          refine s_53 X hc ?_
          refine r_if_eq k_49_65 rfl (fun c_65 => ?_) (fun c_65 => ?_)
          · have c_65 := hm_bi0 c_65
            refine r_bipush k_49_72 cb_6 ?_
            exact hm_T.ret m_49 k_49_74 rfl (by unfold hm_hbl at hQ; rw [if_pos c_5, if_neg c_17, if_pos c_33, if_pos c_49, if_neg (by rw [c_65]; decide)] at hQ; exact hQ)
          · have c_65 := hm_bi1 c_65
            refine r_iconst k_49_68 ci_0 ?_
            refine r_goto k_49_69 rfl ?_
            exact hm_T.ret m_49 k_49_74 rfl (by unfold hm_hbl at hQ; rw [if_pos c_5, if_neg c_17, if_pos c_33, if_pos c_49, if_pos c_65] at hQ; exact hQ)
        · have c_49 := hm_bi0 (Decidable.of_not_not c_49)
          refine r_iconst k_49_52 ci_5 ?_
          exact hm_T.ret m_49 k_49_53 rfl (by unfold hm_hbl at hQ; rw [if_pos c_5, if_neg c_17, if_pos c_33, if_neg (by rw [c_49]; decide)] at hQ; exact hQ)
      · have c_33 := hm_bi0 (Decidable.of_not_not c_33)
        refine r_iconst k_49_36 ci_4 ?_
        exact hm_T.ret m_49 k_49_37 rfl (by unfold hm_hbl at hQ; rw [if_pos c_5, if_neg c_17, if_neg (by rw [c_33]; decide)] at hQ; exact hQ)
    · have c_17 := Decidable.of_not_not c_17
      refine r_iconst k_49_20 ci_3 ?_
      exact hm_T.ret m_49 k_49_21 rfl (by unfold hm_hbl at hQ; rw [if_pos c_5, if_pos c_17] at hQ; exact hQ)
  · refine r_iconst k_49_8 ci_2 ?_
    exact hm_T.ret m_49 k_49_9 rfl (by unfold hm_hbl at hQ; rw [if_neg c_5] at hQ; exact hQ)
def hm_brk (k : hm_M) (c q i : Nat) : Bool := !decide (k (100 + 2 * c) i = -1) && !decide (hm_hbl k c q i (k (100 + 2 * c) i) = 0)
def hm_fb (P : Nat → Bool) : Nat → Nat → Int32
  | 0, _ => -1
  | j + 1, i => if P i = true then nI i else hm_fb P j (i + 1)
set_option maxRecDepth 20000 in
theorem l_47 {d n s : Nat} {k : hm_M} {ad : hm_AD} {g : Nat → Nat × Nat} {w : hm_W} {nc np : Nat} {h : Nat → Option va_E} {Q : Option Value → hm_H → Prop} (X : hm_D k ad g nc np n h) {c q : Nat} (hc : c < nc) (hq : q < 5) : ∀ (j i : Nat), i + j = 4 → Q (some (.int (hm_fb (hm_brk k c q) j i))) (hm_hC k ad w h n s) → hm_T (d + 3) 47 2 [.ref (ad 1 c), .ref (hm_lb q), .int (nI i)] [] (hm_hC k ad w h n s) Q := by
  intro j
  induction j with
  | zero =>
    intro i hi hQ
    refine r_iload_n k_47_2 rfl ?_
    refine r_iconst k_47_3 ci_4 ?_
    refine r_icmp_ge k_47_4 rfl (fun c_4 => ?_) (fun z => absurd (nI_le (show 4 ≤ i by omega) (by omega)) z)
    refine r_iconst k_47_38 ci_m1 ?_
    exact hm_T.ret m_47 k_47_39 rfl hQ
  | succ j ih =>
    intro i hi hQ
    refine r_iload_n k_47_2 rfl ?_
    refine r_iconst k_47_3 ci_4 ?_
    refine r_icmp_ge k_47_4 rfl (fun z => absurd z (nI_ge (show i < 4 by omega) (by omega))) (fun c_4 => ?_)
    refine r_aload_n k_47_7 rfl ?_
    refine r_iload_n k_47_8 rfl ?_
    refine r_callv2 m_47 k_47_9 cl_1_44 m_48 (by decide) rfl rfl (Nat.le_of_ble_eq_true rfl) (Nat.le_of_ble_eq_true rfl) (rD_1 X hc) rfl ?_
    refine s_48 X hc (t := i) (by omega) ?_
    refine r_if_eq k_47_12 rfl (fun c_12 => ?_) (fun c_12 => ?_)
    · have c_12 := hm_bi0 c_12
      have c_12 := Decidable.of_not_not (of_decide_eq_false c_12)
      refine r_iincn k_47_32 rfl (nI_inc i) rfl ?_
      refine r_goto k_47_35 rfl ?_
      refine ih (i + 1) (by omega) ?_
      rw [show hm_fb (hm_brk k c q) (j + 1) i = hm_fb (hm_brk k c q) j (i + 1) from if_neg (by rw [show hm_brk k c q i = false by unfold hm_brk; rw [decide_eq_true c_12]; rfl]; decide)] at hQ
      exact hQ
    · have c_12 := hm_bi1 c_12
      have c_12 := of_decide_eq_true c_12
      refine r_aload_n k_47_15 rfl ?_
      refine r_aload_n k_47_16 rfl ?_
      refine r_iload_n k_47_17 rfl ?_
      refine r_aload_n k_47_18 rfl ?_
      refine r_get m_47 k_47_19 fl_1_15 (rD_1 X hc) rfl ?_
      refine r_iload_n k_47_22 rfl ?_
      refine r_ialdn (k := i) k_47_23 (rD_3 X hc) (Or.inl rfl) rfl (by omega) (by decide) ?_
      refine r_callv4 m_47 k_47_24 cl_1_54 m_49 (by decide) rfl rfl (Nat.le_of_ble_eq_true rfl) (Nat.le_of_ble_eq_true rfl) (rD_1 X hc) rfl ?_
      refine s_49 X hc hq (t := i) (by omega) ?_
      refine r_if_eq k_47_27 rfl (fun c_27 => ?_) (fun c_27 => ?_)
      · refine r_iincn k_47_32 rfl (nI_inc i) rfl ?_
        refine r_goto k_47_35 rfl ?_
        refine ih (i + 1) (by omega) ?_
        rw [show hm_fb (hm_brk k c q) (j + 1) i = hm_fb (hm_brk k c q) j (i + 1) from if_neg (by rw [show hm_brk k c q i = false by unfold hm_brk; rw [decide_eq_false c_12, decide_eq_true c_27]; rfl]; decide)] at hQ
        exact hQ
      · refine r_iload_n k_47_30 rfl ?_
        exact hm_T.ret m_47 k_47_31 rfl (by rw [show hm_fb (hm_brk k c q) (j + 1) i = nI i from if_pos (by unfold hm_brk; rw [decide_eq_false c_12, decide_eq_false c_27]; rfl)] at hQ; exact hQ)
set_option maxRecDepth 20000 in
theorem s_47 {d n s : Nat} {k : hm_M} {ad : hm_AD} {g : Nat → Nat × Nat} {w : hm_W} {nc np : Nat} {h : Nat → Option va_E} {Q : Option Value → hm_H → Prop} (X : hm_D k ad g nc np n h) {c q : Nat} (hc : c < nc) (hq : q < 5) (hQ : Q (some (.int (hm_fb (hm_brk k c q) 4 0))) (hm_hC k ad w h n s)) : hm_T (d + 3) 47 0 [.ref (ad 1 c), .ref (hm_lb q), .retAddr 0] [] (hm_hC k ad w h n s) Q := by
  refine r_iconst k_47_0 ci_0 ?_
  refine r_istore_n k_47_1 rfl ?_
  exact l_47 X hc hq 4 0 (by omega) hQ
def hm_ctl (k : hm_M) (c q : Nat) (t hour : Int32) (i : Nat) : Bool := decide (k (100 + 2 * c) i = -1) || !hm_has (k (60 + 4 * q + i) 4) t || !decide (k (100 + 2 * c) i ≤ hour)
def hm_hos (H : Nat → Int32) (t : Nat) (hour : Int32) (i : Nat) : Bool := decide (i = t) || !decide (H i = hour)
set_option maxRecDepth 20000 in
theorem l_79 {d n s : Nat} {k : hm_M} {ad : hm_AD} {g : Nat → Nat × Nat} {w : hm_W} {nc np : Nat} {h : Nat → Option va_E} {Q : Option Value → hm_H → Prop} (X : hm_D k ad g nc np n h) {c q : Nat} {t hour : Int32} (hc : c < nc) (hq : q < 5) : ∀ (j i : Nat), i + j = 4 → Q (some (.int (hm_bi (!hm_all (hm_ctl k c q t hour) j i)))) (hm_hC k ad w h n s) → hm_T (d + 1) 79 3 [.ref (ad 1 c), .ref (hm_lb q), .int t, .int hour, .int (nI i)] [] (hm_hC k ad w h n s) Q := by
  intro j
  induction j with
  | zero =>
    intro i hi hQ
    refine r_iload k_79_3 rfl ?_
    refine r_iconst k_79_5 ci_4 ?_
    refine r_icmp_ge k_79_6 rfl (fun c_6 => ?_) (fun z => absurd (nI_le (show 4 ≤ i by omega) (by omega)) z)
    refine r_iconst k_79_51 ci_0 ?_
    exact hm_T.ret m_79 k_79_52 rfl hQ
  | succ j ih =>
    intro i hi hQ
    refine r_iload k_79_3 rfl ?_
    refine r_iconst k_79_5 ci_4 ?_
    refine r_icmp_ge k_79_6 rfl (fun z => absurd z (nI_ge (show i < 4 by omega) (by omega))) (fun c_6 => ?_)
    refine r_aload_n k_79_9 rfl ?_
    refine r_iload k_79_10 rfl ?_
    refine r_callv2 m_79 k_79_12 cl_1_44 m_48 (by decide) rfl rfl (Nat.le_of_ble_eq_true rfl) (Nat.le_of_ble_eq_true rfl) (rD_1 X hc) rfl ?_
    refine s_48 X hc (t := i) (by omega) ?_
    refine r_if_eq k_79_15 rfl (fun c_15 => ?_) (fun c_15 => ?_)
    · have c_15 := hm_bi0 c_15
      have c_15 := Decidable.of_not_not (of_decide_eq_false c_15)
      refine r_iincn k_79_45 rfl (nI_inc i) rfl ?_
      refine r_goto k_79_48 rfl ?_
      refine ih (i + 1) (by omega) ?_
      rw [hm_all_t (show hm_ctl k c q t hour i = true by unfold hm_ctl; rw [decide_eq_true c_15]; rfl)] at hQ
      exact hQ
    · have c_15 := hm_bi1 c_15
      have c_15 := of_decide_eq_true c_15
      refine r_aload_n k_79_18 rfl ?_
      refine r_iload k_79_19 rfl ?_
      refine r_iconst k_79_21 ci_4 ?_
      refine r_callv3 m_79 k_79_22 cl_1_58 m_50 (by decide) rfl rfl (Nat.le_of_ble_eq_true rfl) (Nat.le_of_ble_eq_true rfl) (rC_l0 hq) rfl ?_
      refine s_50 hq (t := i) (by omega) (i := 4) (by decide) ?_
      refine r_iload_n k_79_25 rfl ?_
      refine r_calls2 m_79 k_79_26 cl_1_80 m_21 (by decide) rfl rfl (Nat.le_of_ble_eq_true rfl) (Nat.le_of_ble_eq_true rfl) ?_
      refine s_21 ?_
      refine r_if_eq k_79_29 rfl (fun c_29 => ?_) (fun c_29 => ?_)
      · have c_29 := hm_bi0 c_29
        refine r_iincn k_79_45 rfl (nI_inc i) rfl ?_
        refine r_goto k_79_48 rfl ?_
        refine ih (i + 1) (by omega) ?_
        rw [hm_all_t (show hm_ctl k c q t hour i = true by unfold hm_ctl; rw [c_29, decide_eq_false c_15]; rfl)] at hQ
        exact hQ
      · have c_29 := hm_bi1 c_29
        refine r_aload_n k_79_32 rfl ?_
        refine r_get m_79 k_79_33 fl_1_15 (rD_1 X hc) rfl ?_
        refine r_iload k_79_36 rfl ?_
        refine r_ialdn (k := i) k_79_38 (rD_3 X hc) (Or.inl rfl) rfl (by omega) (by decide) ?_
        refine r_iload_n k_79_39 rfl ?_
        refine r_icmp_gt k_79_40 rfl (fun c_40 => ?_) (fun c_40 => ?_)
        · refine r_iincn k_79_45 rfl (nI_inc i) rfl ?_
          refine r_goto k_79_48 rfl ?_
          refine ih (i + 1) (by omega) ?_
          rw [hm_all_t (show hm_ctl k c q t hour i = true by unfold hm_ctl; rw [c_29, decide_eq_false c_15, decide_eq_false (Int32.not_le.mpr c_40)]; rfl)] at hQ
          exact hQ
        · refine r_iconst k_79_43 ci_1 ?_
          exact hm_T.ret m_79 k_79_44 rfl (by rw [hm_all_f (show hm_ctl k c q t hour i = false by unfold hm_ctl; rw [c_29, decide_eq_false c_15, decide_eq_true (Int32.not_lt.mp c_40)]; rfl)] at hQ; exact hQ)
set_option maxRecDepth 20000 in
theorem s_79 {d n s : Nat} {k : hm_M} {ad : hm_AD} {g : Nat → Nat × Nat} {w : hm_W} {nc np : Nat} {h : Nat → Option va_E} {Q : Option Value → hm_H → Prop} (X : hm_D k ad g nc np n h) {c q : Nat} {t hour : Int32} (hc : c < nc) (hq : q < 5) (hQ : Q (some (.int (hm_bi (!hm_all (hm_ctl k c q t hour) 4 0)))) (hm_hC k ad w h n s)) : hm_T (d + 1) 79 0 [.ref (ad 1 c), .ref (hm_lb q), .int t, .int hour, .retAddr 0] [] (hm_hC k ad w h n s) Q := by
  refine r_iconst k_79_0 ci_0 ?_
  refine r_istore k_79_1 rfl ?_
  exact l_79 X hc hq 4 0 (by omega) hQ
set_option maxRecDepth 20000 in
theorem l_80 {d n s : Nat} {k : hm_M} {ad : hm_AD} {g : Nat → Nat × Nat} {w : hm_W} {nc np : Nat} {h : Nat → Option va_E} {Q : Option Value → hm_H → Prop} (X : hm_D k ad g nc np n h) {c t : Nat} {hour : Int32} (hc : c < nc) (ht : t < 4) : ∀ (j i : Nat), i + j = 4 → Q (some (.int (hm_bi (!hm_all (hm_hos (k (100 + 2 * c)) t hour) j i)))) (hm_hC k ad w h n s) → hm_T d 80 2 [.ref (ad 1 c), .int (nI t), .int hour, .int (nI i)] [] (hm_hC k ad w h n s) Q := by
  intro j
  induction j with
  | zero =>
    intro i hi hQ
    refine r_iload_n k_80_2 rfl ?_
    refine r_iconst k_80_3 ci_4 ?_
    refine r_icmp_ge k_80_4 rfl (fun c_4 => ?_) (fun z => absurd (nI_le (show 4 ≤ i by omega) (by omega)) z)
    refine r_iconst k_80_30 ci_0 ?_
    exact hm_T.ret m_80 k_80_31 rfl hQ
  | succ j ih =>
    intro i hi hQ
    refine r_iload_n k_80_2 rfl ?_
    refine r_iconst k_80_3 ci_4 ?_
    refine r_icmp_ge k_80_4 rfl (fun z => absurd z (nI_ge (show i < 4 by omega) (by omega))) (fun c_4 => ?_)
    refine r_iload_n k_80_7 rfl ?_
    refine r_iload_n k_80_8 rfl ?_
    refine r_icmp_eq k_80_9 rfl (fun c_9 => ?_) (fun c_9 => ?_)
    · refine r_iincn k_80_24 rfl (nI_inc i) rfl ?_
      refine r_goto k_80_27 rfl ?_
      refine ih (i + 1) (by omega) ?_
      rw [hm_all_t (show hm_hos (k (100 + 2 * c)) t hour i = true by unfold hm_hos; rw [decide_eq_true (hm_nIinj c_9 (by omega))]; rfl)] at hQ
      exact hQ
    · refine r_aload_n k_80_12 rfl ?_
      refine r_get m_80 k_80_13 fl_1_15 (rD_1 X hc) rfl ?_
      refine r_iload_n k_80_16 rfl ?_
      refine r_ialdn (k := i) k_80_17 (rD_3 X hc) (Or.inl rfl) rfl (by omega) (by decide) ?_
      refine r_iload_n k_80_18 rfl ?_
      refine r_icmp_ne k_80_19 rfl (fun c_19 => ?_) (fun c_19 => ?_)
      · refine r_iincn k_80_24 rfl (nI_inc i) rfl ?_
        refine r_goto k_80_27 rfl ?_
        refine ih (i + 1) (by omega) ?_
        rw [hm_all_t (show hm_hos (k (100 + 2 * c)) t hour i = true by unfold hm_hos; rw [decide_eq_false c_19, Bool.not_false, Bool.or_true])] at hQ
        exact hQ
      · have c_19 := Decidable.of_not_not c_19
        refine r_iconst k_80_22 ci_1 ?_
        exact hm_T.ret m_80 k_80_23 rfl (by rw [hm_all_f (show hm_hos (k (100 + 2 * c)) t hour i = false by unfold hm_hos; rw [decide_eq_false (fun z => c_9 (congrArg nI z)), decide_eq_true c_19]; rfl)] at hQ; exact hQ)
set_option maxRecDepth 20000 in
theorem s_80 {d n s : Nat} {k : hm_M} {ad : hm_AD} {g : Nat → Nat × Nat} {w : hm_W} {nc np : Nat} {h : Nat → Option va_E} {Q : Option Value → hm_H → Prop} (X : hm_D k ad g nc np n h) {c t : Nat} {hour : Int32} (hc : c < nc) (ht : t < 4) (hQ : Q (some (.int (hm_bi (!hm_all (hm_hos (k (100 + 2 * c)) t hour) 4 0)))) (hm_hC k ad w h n s)) : hm_T d 80 0 [.ref (ad 1 c), .int (nI t), .int hour, .retAddr 0] [] (hm_hC k ad w h n s) Q := by
  refine r_iconst k_80_0 ci_0 ?_
  refine r_istore_n k_80_1 rfl ?_
  exact l_80 X hc ht 4 0 (by omega) hQ
def hm_hbo (k : hm_M) (c q t : Nat) (hour : Int32) : Int32 := if hm_all (hm_ctl k c q (nI t) hour) 4 0 = true then (if (t = 2 ∧ ¬ k (100 + 2 * c) 3 = -1) ∨ (t = 3 ∧ ¬ k (100 + 2 * c) 2 = -1) then nI 8 else if hm_all (hm_hos (k (100 + 2 * c)) t hour) 4 0 = true then nI 0 else nI 9) else nI 7
set_option maxRecDepth 20000 in
theorem s_78 {d n s : Nat} {k : hm_M} {ad : hm_AD} {g : Nat → Nat × Nat} {w : hm_W} {nc np : Nat} {h : Nat → Option va_E} {Q : Option Value → hm_H → Prop} (X : hm_D k ad g nc np n h) {c : Nat} (hc : c < nc) {q t : Nat} (hq : q < 5) (ht : t < 4) {hour : Int32} (hQ : Q (some (.int (hm_hbo k c q t hour))) (hm_hC k ad w h n s)) : hm_T (d + 2) 78 0 [.ref (ad 1 c), .ref (hm_lb q), .int (nI t), .int hour] [] (hm_hC k ad w h n s) Q := by
  refine r_aload_n k_78_0 rfl ?_
  refine r_aload_n k_78_1 rfl ?_
  refine r_iload_n k_78_2 rfl ?_
  refine r_iload_n k_78_3 rfl ?_
  refine r_callv4 m_78 k_78_4 cl_1_73 m_79 (by decide) rfl rfl (Nat.le_of_ble_eq_true rfl) (Nat.le_of_ble_eq_true rfl) (rD_1 X hc) rfl ?_
  refine s_79 X hc hq ?_
  refine r_if_eq k_78_7 rfl (fun c_7 => ?_) (fun c_7 => ?_)
  · have c_7 := hm_bi0 c_7
    refine r_iload_n k_78_13 rfl ?_
    refine r_iconst k_78_14 ci_2 ?_
    refine r_icmp_ne k_78_15 rfl (fun c_15 => ?_) (fun c_15 => ?_)
    · refine r_iload_n k_78_26 rfl ?_
      refine r_iconst k_78_27 ci_3 ?_
      refine r_icmp_ne k_78_28 rfl (fun c_28 => ?_) (fun c_28 => ?_)
      · refine r_aload_n k_78_42 rfl ?_
        refine r_iload_n k_78_43 rfl ?_
        refine r_iload_n k_78_44 rfl ?_
        refine r_callv3 m_78 k_78_45 cl_1_77 m_80 (by decide) rfl rfl (Nat.le_of_ble_eq_true rfl) (Nat.le_of_ble_eq_true rfl) (rD_1 X hc) rfl ?_
        refine s_80 X hc ht ?_
        refine r_if_eq k_78_48 rfl (fun c_48 => ?_) (fun c_48 => ?_)
        · have c_48 := hm_bi0 c_48
          refine r_iconst k_78_56 ci_0 ?_
          exact hm_T.ret m_78 k_78_57 rfl (by unfold hm_hbo at hQ; rw [if_pos (show hm_all _ 4 0 = true by simpa using c_7), if_neg (fun z => z.elim (fun y => c_15 (congrArg nI y.1)) (fun y => c_28 (congrArg nI y.1))), if_pos (show hm_all _ 4 0 = true by simpa using c_48)] at hQ; exact hQ)
        · have c_48 := hm_bi1 c_48
          refine r_bipush k_78_51 cb_9 ?_
          refine r_goto k_78_53 rfl ?_
          exact hm_T.ret m_78 k_78_57 rfl (by unfold hm_hbo at hQ; rw [if_pos (show hm_all _ 4 0 = true by simpa using c_7), if_neg (fun z => z.elim (fun y => c_15 (congrArg nI y.1)) (fun y => c_28 (congrArg nI y.1))), if_neg (show ¬ hm_all _ 4 0 = true by simpa using c_48)] at hQ; exact hQ)
      · have c_28 := Decidable.of_not_not c_28
        refine r_aload_n k_78_31 rfl ?_
        refine r_iconst k_78_32 ci_2 ?_
        refine r_callv2 m_78 k_78_33 cl_1_44 m_48 (by decide) rfl rfl (Nat.le_of_ble_eq_true rfl) (Nat.le_of_ble_eq_true rfl) (rD_1 X hc) rfl ?_
        refine s_48 X hc (t := 2) (by decide) ?_
        refine r_if_eq k_78_36 rfl (fun c_36 => ?_) (fun c_36 => ?_)
        · have c_36 := hm_bi0 c_36
          have c_36 := Decidable.of_not_not (of_decide_eq_false c_36)
          refine r_aload_n k_78_42 rfl ?_
          refine r_iload_n k_78_43 rfl ?_
          refine r_iload_n k_78_44 rfl ?_
          refine r_callv3 m_78 k_78_45 cl_1_77 m_80 (by decide) rfl rfl (Nat.le_of_ble_eq_true rfl) (Nat.le_of_ble_eq_true rfl) (rD_1 X hc) rfl ?_
          refine s_80 X hc ht ?_
          refine r_if_eq k_78_48 rfl (fun c_48 => ?_) (fun c_48 => ?_)
          · have c_48 := hm_bi0 c_48
            refine r_iconst k_78_56 ci_0 ?_
            exact hm_T.ret m_78 k_78_57 rfl (by unfold hm_hbo at hQ; rw [if_pos (show hm_all _ 4 0 = true by simpa using c_7), if_neg (fun z => z.elim (fun y => c_15 (congrArg nI y.1)) (fun y => y.2 c_36)), if_pos (show hm_all _ 4 0 = true by simpa using c_48)] at hQ; exact hQ)
          · have c_48 := hm_bi1 c_48
            refine r_bipush k_78_51 cb_9 ?_
            refine r_goto k_78_53 rfl ?_
            exact hm_T.ret m_78 k_78_57 rfl (by unfold hm_hbo at hQ; rw [if_pos (show hm_all _ 4 0 = true by simpa using c_7), if_neg (fun z => z.elim (fun y => c_15 (congrArg nI y.1)) (fun y => y.2 c_36)), if_neg (show ¬ hm_all _ 4 0 = true by simpa using c_48)] at hQ; exact hQ)
        · have c_36 := hm_bi1 c_36
          have c_36 := of_decide_eq_true c_36
          refine r_bipush k_78_39 cb_8 ?_
          exact hm_T.ret m_78 k_78_41 rfl (by unfold hm_hbo at hQ; rw [if_pos (show hm_all _ 4 0 = true by simpa using c_7), if_pos (Or.inr ⟨hm_nIinj c_28 (by omega), c_36⟩)] at hQ; exact hQ)
    · have c_15 := Decidable.of_not_not c_15
      refine r_aload_n k_78_18 rfl ?_
      refine r_iconst k_78_19 ci_3 ?_
      refine r_callv2 m_78 k_78_20 cl_1_44 m_48 (by decide) rfl rfl (Nat.le_of_ble_eq_true rfl) (Nat.le_of_ble_eq_true rfl) (rD_1 X hc) rfl ?_
      refine s_48 X hc (t := 3) (by decide) ?_
      refine r_if_ne k_78_23 rfl (fun c_23 => ?_) (fun c_23 => ?_)
      · have c_23 := hm_bi1 c_23
        have c_23 := of_decide_eq_true c_23
        refine r_bipush k_78_39 cb_8 ?_
        exact hm_T.ret m_78 k_78_41 rfl (by unfold hm_hbo at hQ; rw [if_pos (show hm_all _ 4 0 = true by simpa using c_7), if_pos (Or.inl ⟨hm_nIinj c_15 (by omega), c_23⟩)] at hQ; exact hQ)
      · have c_23 := hm_bi0 (Decidable.of_not_not c_23)
        have c_23 := Decidable.of_not_not (of_decide_eq_false c_23)
        refine r_iload_n k_78_26 rfl ?_
        refine r_iconst k_78_27 ci_3 ?_
        refine r_icmp_ne k_78_28 rfl (fun c_28 => ?_) (fun z => absurd (fun z => absurd (hm_nIinj (c_15.symm.trans z) (by omega)) (by decide)) z)
        refine r_aload_n k_78_42 rfl ?_
        refine r_iload_n k_78_43 rfl ?_
        refine r_iload_n k_78_44 rfl ?_
        refine r_callv3 m_78 k_78_45 cl_1_77 m_80 (by decide) rfl rfl (Nat.le_of_ble_eq_true rfl) (Nat.le_of_ble_eq_true rfl) (rD_1 X hc) rfl ?_
        refine s_80 X hc ht ?_
        refine r_if_eq k_78_48 rfl (fun c_48 => ?_) (fun c_48 => ?_)
        · have c_48 := hm_bi0 c_48
          refine r_iconst k_78_56 ci_0 ?_
          exact hm_T.ret m_78 k_78_57 rfl (by unfold hm_hbo at hQ; rw [if_pos (show hm_all _ 4 0 = true by simpa using c_7), if_neg (fun z => z.elim (fun y => y.2 c_23) (fun y => c_28 (congrArg nI y.1))), if_pos (show hm_all _ 4 0 = true by simpa using c_48)] at hQ; exact hQ)
        · have c_48 := hm_bi1 c_48
          refine r_bipush k_78_51 cb_9 ?_
          refine r_goto k_78_53 rfl ?_
          exact hm_T.ret m_78 k_78_57 rfl (by unfold hm_hbo at hQ; rw [if_pos (show hm_all _ 4 0 = true by simpa using c_7), if_neg (fun z => z.elim (fun y => y.2 c_23) (fun y => c_28 (congrArg nI y.1))), if_neg (show ¬ hm_all _ 4 0 = true by simpa using c_48)] at hQ; exact hQ)
  · have c_7 := hm_bi1 c_7
    refine r_bipush k_78_10 cb_7 ?_
    exact hm_T.ret m_78 k_78_12 rfl (by unfold hm_hbo at hQ; rw [if_neg (show ¬ hm_all _ 4 0 = true by simpa using c_7)] at hQ; exact hQ)
