set_option maxRecDepth 20000 in
theorem l_104 {d n s : Nat} {k : hm_M} {ad : hm_AD} {g : Nat → Nat × Nat} {w : hm_W} {nc np : Nat} {h : Nat → Option va_E} {Q : Option Value → hm_H → Prop} (X : hm_D k ad g nc np n h) (hQ : Q (some (.int (hm_sg (k 20) np))) (hm_hC k ad w h n s)) : ∀ (j q : Nat), q + j = np → hm_T (d + 3) 104 4 [.ref 4, .int (hm_sg (k 20) q), .int (nI q)] [] (hm_hC k ad w h n s) Q := by
  intro j
  induction j with
  | zero =>
    have h16 := X.np16
    intro q hj
    refine r_iload_n k_104_4 rfl ?_
    refine r_aload_n k_104_5 rfl ?_
    refine r_get m_104 k_104_6 fl_7_69 rfl rfl ?_
    refine r_callv1 m_104 k_104_9 cl_7_124 m_41 (by decide) rfl rfl (Nat.le_of_ble_eq_true rfl) (Nat.le_of_ble_eq_true rfl) rfl rfl ?_
    refine s_41q X ?_
    refine r_icmp_ge k_104_12 rfl (fun c_12 => ?_) (fun z => absurd (nI_le (show np ≤ q by omega) (by omega)) z)
    refine r_iload_n k_104_38 rfl ?_
    exact hm_T.ret m_104 k_104_39 rfl (by rw [show np = q by omega] at hQ; exact hQ)
  | succ j ih =>
    have h16 := X.np16
    intro q hj
    refine r_iload_n k_104_4 rfl ?_
    refine r_aload_n k_104_5 rfl ?_
    refine r_get m_104 k_104_6 fl_7_69 rfl rfl ?_
    refine r_callv1 m_104 k_104_9 cl_7_124 m_41 (by decide) rfl rfl (Nat.le_of_ble_eq_true rfl) (Nat.le_of_ble_eq_true rfl) rfl rfl ?_
    refine s_41q X ?_
    refine r_icmp_ge k_104_12 rfl (fun z => absurd z (nI_ge (show q < np by omega) (by omega))) (fun c_12 => ?_)
    refine r_iload_n k_104_15 rfl ?_
    refine r_aload_n k_104_16 rfl ?_
    refine r_get m_104 k_104_17 fl_7_69 rfl rfl ?_
    refine r_iload_n k_104_20 rfl ?_
    refine r_callv2 m_104 k_104_21 cl_7_128 m_42 (by decide) rfl rfl (Nat.le_of_ble_eq_true rfl) (Nat.le_of_ble_eq_true rfl) rfl rfl ?_
    refine s_42q X (q := q) (by omega) ?_
    refine r_cast m_104 k_104_24 nl_7_261 (rD_4 X (by omega)) ?_
    refine r_get m_104 k_104_27 fl_7_270 (rD_4 X (by omega)) rfl ?_
    refine r_iadd k_104_30 ?_
    refine r_istore_n k_104_31 rfl ?_
    refine r_iincn k_104_32 rfl (nI_inc q) rfl ?_
    refine r_goto k_104_35 rfl ?_
    exact ih (q + 1) (by omega)
set_option maxRecDepth 20000 in
theorem s_104 {d n s : Nat} {k : hm_M} {ad : hm_AD} {g : Nat → Nat × Nat} {w : hm_W} {nc np : Nat} {h : Nat → Option va_E} {Q : Option Value → hm_H → Prop} (X : hm_D k ad g nc np n h) (hQ : Q (some (.int (hm_sg (k 20) np))) (hm_hC k ad w h n s)) : hm_T (d + 3) 104 0 [.ref 4, .retAddr 0, .retAddr 0] [] (hm_hC k ad w h n s) Q := by
  refine r_iconst k_104_0 ci_0 ?_
  refine r_istore_n k_104_1 rfl ?_
  refine r_iconst k_104_2 ci_0 ?_
  refine r_istore_n k_104_3 rfl ?_
  exact l_104 X hQ np 0 (by omega)
set_option maxRecDepth 20000 in
theorem s_20 {d n s : Nat} {k : hm_M} {ad : hm_AD} {w : hm_W} {h : Nat → Option va_E} {Q : Option Value → hm_H → Prop} {j : Nat} {hour : Int32} (hj : j < 3) (hQ : Q (some (.int (hm_bi (hm_opn k hour j)))) (hm_hC k ad w h n s)) : hm_T (d + 1) 20 0 [.ref 4, .int (nI j), .int hour] [] (hm_hC k ad w h n s) Q := by
  refine r_aload_n k_20_0 rfl ?_
  refine r_get m_20 k_20_1 fl_7_13 rfl rfl ?_
  refine r_iload_n k_20_4 rfl ?_
  refine r_ialdn (k := j) k_20_5 rfl (Or.inl rfl) rfl hj (by decide) ?_
  refine r_iload_n k_20_6 rfl ?_
  refine r_bipush k_20_7 cb_10 ?_
  refine r_irem k_20_9 (by decide) ?_
  refine r_calls2 m_20 k_20_10 cl_7_110 m_21 (by decide) rfl rfl (Nat.le_of_ble_eq_true rfl) (Nat.le_of_ble_eq_true rfl) ?_
  refine s_21 ?_
  exact r_retz m_20 k_20_13 rfl hm_bi01 hQ
set_option maxRecDepth 20000 in
theorem l_19 {d n s : Nat} {k : hm_M} {ad : hm_AD} {w : hm_W} {h : Nat → Option va_E} {Q : Option Value → hm_H → Prop} {hour : Int32} (hQ : Q (some (.int (nI (hm_cnt (hm_opn k hour) 3)))) (hm_hC k ad w h n s)) : ∀ (j i : Nat), i + j = 3 → hm_T (d + 2) 19 4 [.ref 4, .int hour, .int (nI (hm_cnt (hm_opn k hour) i)), .int (nI i)] [] (hm_hC k ad w h n s) Q := by
  intro j
  induction j with
  | zero =>
    intro i hi
    refine r_iload_n k_19_4 rfl ?_
    refine r_iconst k_19_5 ci_3 ?_
    refine r_icmp_ge k_19_6 rfl (fun c_6 => ?_) (fun z => absurd (nI_le (show 3 ≤ i by omega) (by omega)) z)
    refine r_iload_n k_19_32 rfl ?_
    exact hm_T.ret m_19 k_19_33 rfl (by rw [show 3 = i by omega] at hQ; exact hQ)
  | succ j ih =>
    intro i hi
    refine r_iload_n k_19_4 rfl ?_
    refine r_iconst k_19_5 ci_3 ?_
    refine r_icmp_ge k_19_6 rfl (fun z => absurd z (nI_ge (show i < 3 by omega) (by omega))) (fun c_6 => ?_)
    refine r_iload_n k_19_9 rfl ?_
    refine r_aload_n k_19_10 rfl ?_
    refine r_iload_n k_19_11 rfl ?_
    refine r_iload_n k_19_12 rfl ?_
    refine r_callv3 m_19 k_19_13 cl_7_106 m_20 (by decide) rfl rfl (Nat.le_of_ble_eq_true rfl) (Nat.le_of_ble_eq_true rfl) rfl rfl ?_
    refine s_20 (j := i) (by omega) ?_
    refine r_if_eq k_19_16 rfl (fun c_16 => ?_) (fun c_16 => ?_)
    · have c_16 := hm_bi0 c_16
      refine r_iconst k_19_23 ci_0 ?_
      refine r_iadd k_19_24 ?_
      refine r_istore_n k_19_25 rfl ?_
      refine r_iincn k_19_26 rfl (nI_inc i) rfl ?_
      refine r_goto k_19_29 rfl ?_
      have e := ih (i + 1) (by omega)
      rw [hm_cnt_n (P := hm_opn k hour) c_16] at e
      exact e
    · have c_16 := hm_bi1 c_16
      refine r_iconst k_19_19 ci_1 ?_
      refine r_goto k_19_20 rfl ?_
      refine r_iadd k_19_24 ?_
      refine r_istore_n k_19_25 rfl ?_
      refine r_iincn k_19_26 rfl (nI_inc i) rfl ?_
      refine r_goto k_19_29 rfl ?_
      have e := ih (i + 1) (by omega)
      rw [hm_cnt_y (P := hm_opn k hour) c_16] at e
      exact e
set_option maxRecDepth 20000 in
theorem s_19 {d n s : Nat} {k : hm_M} {ad : hm_AD} {w : hm_W} {h : Nat → Option va_E} {Q : Option Value → hm_H → Prop} {hour : Int32} (hQ : Q (some (.int (nI (hm_cnt (hm_opn k hour) 3)))) (hm_hC k ad w h n s)) : hm_T (d + 2) 19 0 [.ref 4, .int hour, .retAddr 0, .retAddr 0] [] (hm_hC k ad w h n s) Q := by
  refine r_iconst k_19_0 ci_0 ?_
  refine r_istore_n k_19_1 rfl ?_
  refine r_iconst k_19_2 ci_0 ?_
  refine r_istore_n k_19_3 rfl ?_
  exact l_19 hQ 3 0 (by omega)
def hm_esc (k : hm_M) (i : Nat) : Bool := decide (k 41 i ≤ nI (hm_cnt (hm_opn k (nI i)) 3))
set_option maxRecDepth 20000 in
theorem l_17 {d n s : Nat} {k : hm_M} {ad : hm_AD} {w : hm_W} {h : Nat → Option va_E} {Q : Option Value → hm_H → Prop} : ∀ (j i : Nat), i + j = 400 → Q (some (.int (hm_bi (hm_all (hm_esc k) j i)))) (hm_hC k ad w h n s) → hm_T (d + 3) 17 2 [.ref 4, .int (nI i)] [] (hm_hC k ad w h n s) Q := by
  intro j
  induction j with
  | zero =>
    intro i hi hQ
    refine r_iload_n k_17_2 rfl ?_
    refine r_sipush k_17_3 cs_400 ?_
    refine r_icmp_ge k_17_6 rfl (fun c_6 => ?_) (fun z => absurd (nI_le (show 400 ≤ i by omega) (by omega)) z)
    refine r_iconst k_17_34 ci_1 ?_
    exact hm_T.ret m_17 k_17_35 rfl hQ
  | succ j ih =>
    intro i hi hQ
    refine r_iload_n k_17_2 rfl ?_
    refine r_sipush k_17_3 cs_400 ?_
    refine r_icmp_ge k_17_6 rfl (fun z => absurd z (nI_ge (show i < 400 by omega) (by omega))) (fun c_6 => ?_)
    refine r_aload_n k_17_9 rfl ?_
    refine r_get m_17 k_17_10 fl_7_26 rfl rfl ?_
    refine r_iload_n k_17_13 rfl ?_
    refine r_iconst k_17_14 ci_1 ?_
    refine r_callv3 m_17 k_17_15 cl_7_99 m_18 (by decide) rfl rfl (Nat.le_of_ble_eq_true rfl) (Nat.le_of_ble_eq_true rfl) rfl rfl ?_
    refine s_18 (hh := i) (r := 1) (by decide) (by omega) ?_
    refine r_aload_n k_17_18 rfl ?_
    refine r_iload_n k_17_19 rfl ?_
    refine r_callv2 m_17 k_17_20 cl_7_103 m_19 (by decide) rfl rfl (Nat.le_of_ble_eq_true rfl) (Nat.le_of_ble_eq_true rfl) rfl rfl ?_
    refine s_19 ?_
    refine r_icmp_le k_17_23 rfl (fun c_23 => ?_) (fun c_23 => ?_)
    · refine r_iincn k_17_28 rfl (nI_inc i) rfl ?_
      refine r_goto k_17_31 rfl ?_
      refine ih (i + 1) (by omega) ?_
      rw [hm_all_t (show hm_esc k i = true by exact decide_eq_true c_23)] at hQ
      exact hQ
    · refine r_iconst k_17_26 ci_0 ?_
      exact hm_T.ret m_17 k_17_27 rfl (by rw [hm_all_f (show hm_esc k i = false by exact decide_eq_false c_23)] at hQ; exact hQ)
set_option maxRecDepth 20000 in
theorem s_17 {d n s : Nat} {k : hm_M} {ad : hm_AD} {w : hm_W} {h : Nat → Option va_E} {Q : Option Value → hm_H → Prop} (hQ : Q (some (.int (hm_bi (hm_all (hm_esc k) 400 0)))) (hm_hC k ad w h n s)) : hm_T (d + 3) 17 0 [.ref 4, .retAddr 0] [] (hm_hC k ad w h n s) Q := by
  refine r_iconst k_17_0 ci_0 ?_
  refine r_istore_n k_17_1 rfl ?_
  exact l_17 400 0 (by omega) hQ
set_option maxRecDepth 20000 in
theorem s_60 {d n s : Nat} {k : hm_M} {ad : hm_AD} {w : hm_W} {h : Nat → Option va_E} {Q : Option Value → hm_H → Prop} (hQ : Q (some (.int (k 8 0))) (hm_hC k ad w h n s)) : hm_T d 60 0 [.ref 4] [] (hm_hC k ad w h n s) Q := by
  refine r_aload_n k_60_0 rfl ?_
  refine r_get m_60 k_60_1 fl_7_40 rfl rfl ?_
  refine r_get m_60 k_60_4 fl_7_141 rfl rfl ?_
  exact hm_T.ret m_60 k_60_7 rfl hQ
def oc_says (k : hm_M) (ad : hm_AD) (f t x : Int32) : Int32 := if (0 ≤ f.toInt ∧ f.toInt ≤ 3) then (if (0 ≤ t.toInt ∧ t.toInt ≤ 3) then (if (0 ≤ x.toInt ∧ x.toInt ≤ 4) then k (60 + 4 * ad 0 f.toNatClampNeg + t.toNatClampNeg) x.toNatClampNeg else -1002) else -1002) else -1001
set_option maxRecDepth 20000 in
theorem s_61 {d n s : Nat} {k : hm_M} {ad : hm_AD} {g : Nat → Nat × Nat} {w : hm_W} {nc np : Nat} {h : Nat → Option va_E} {Q : Option Value → hm_H → Prop} (X : hm_D k ad g nc np n h) {f t x : Int32} (hQ : Q (some (.int (oc_says k ad f t x))) (hm_hC k ad w h n s)) : hm_T (d + 2) 61 0 [.ref 4, .int f, .int t, .int x] [] (hm_hC k ad w h n s) Q := by
  refine r_iload_n k_61_0 rfl ?_
  refine r_iconst k_61_1 ci_0 ?_
  refine r_iconst k_61_2 ci_3 ?_
  refine r_calls3 m_61 k_61_3 cl_7_78 m_13 (by decide) rfl rfl (Nat.le_of_ble_eq_true rfl) (Nat.le_of_ble_eq_true rfl) ?_
  refine s_13 ?_
  rw [show (nI 0).toInt = 0 by decide +kernel, show (nI 3).toInt = 3 by decide +kernel]
  refine r_if_ne k_61_6 rfl (fun c_6 => ?_) (fun c_6 => ?_)
  · have c_6 := hm_if1 c_6
    refine r_iload_n k_61_13 rfl ?_
    refine r_calls1 m_61 k_61_14 cl_7_144 m_62 (by decide) rfl rfl (Nat.le_of_ble_eq_true rfl) (Nat.le_of_ble_eq_true rfl) ?_
    refine s_62 ?_
    refine r_if_eq k_61_17 rfl (fun c_17 => ?_) (fun c_17 => ?_)
    · have c_17 := hm_if0 c_17
      refine r_sipush k_61_29 cs_m1002 ?_
      exact hm_T.ret m_61 k_61_32 rfl (by unfold oc_says at hQ; rw [if_pos c_6, if_neg c_17] at hQ; exact hQ)
    · have c_17 := hm_if1 c_17
      refine r_iload_n k_61_20 rfl ?_
      refine r_iconst k_61_21 ci_0 ?_
      refine r_iconst k_61_22 ci_4 ?_
      refine r_calls3 m_61 k_61_23 cl_7_78 m_13 (by decide) rfl rfl (Nat.le_of_ble_eq_true rfl) (Nat.le_of_ble_eq_true rfl) ?_
      refine s_13 ?_
      rw [show (nI 0).toInt = 0 by decide +kernel, show (nI 4).toInt = 4 by decide +kernel]
      refine r_if_ne k_61_26 rfl (fun c_26 => ?_) (fun c_26 => ?_)
      · have c_26 := hm_if1 c_26
        obtain ⟨fk, fkb, rfl, -, fkc⟩ := hm_nIof2 c_6.1 (N := 4) (by omega)
        obtain ⟨tk, tkb, rfl, -, tkc⟩ := hm_nIof2 c_17.1 (N := 4) (by omega)
        obtain ⟨xk, xkb, rfl, -, xkc⟩ := hm_nIof2 c_26.1 (N := 5) (by omega)
        refine r_aload_n k_61_33 rfl ?_
        refine r_get m_61 k_61_34 fl_7_46 rfl rfl ?_
        refine r_iload_n k_61_37 rfl ?_
        refine r_aaldn (k := fk) k_61_38 rfl (by decide) rfl fkb (by decide) (by show va_rf (if fk < 4 then some _ else none) = _; rw [if_pos fkb]; try rfl) ?_
        refine r_iload_n k_61_39 rfl ?_
        refine r_iload_n k_61_40 rfl ?_
        refine r_callv3 m_61 k_61_41 cl_7_148 m_50 (by decide) rfl rfl (Nat.le_of_ble_eq_true rfl) (Nat.le_of_ble_eq_true rfl) (rC_l0 (X.p fk (by omega))) rfl ?_
        refine s_50 (X.p fk (by omega)) tkb xkb ?_
        exact hm_T.ret m_61 k_61_44 rfl (by unfold oc_says at hQ; rw [if_pos c_6, if_pos c_17, if_pos c_26, fkc, tkc, xkc] at hQ; exact hQ)
      · have c_26 := hm_if0 (Decidable.of_not_not c_26)
        refine r_sipush k_61_29 cs_m1002 ?_
        exact hm_T.ret m_61 k_61_32 rfl (by unfold oc_says at hQ; rw [if_pos c_6, if_pos c_17, if_neg c_26] at hQ; exact hQ)
  · have c_6 := hm_if0 (Decidable.of_not_not c_6)
    refine r_sipush k_61_9 cs_m1001 ?_
    exact hm_T.ret m_61 k_61_12 rfl (by unfold oc_says at hQ; rw [if_neg c_6] at hQ; exact hQ)
set_option maxRecDepth 20000 in
theorem s_22_out {d n s : Nat} {k : hm_M} {ad : hm_AD} {w : hm_W} {h : Nat → Option va_E} {Q : Option Value → hm_H → Prop} {v : Int32} (hv : ¬ (140 ≤ v.toInt ∧ v.toInt ≤ 210)) (hQ : Q (some (.int (-1002))) (hm_hC k ad w h n s)) : hm_T (d + 1) 22 0 [.ref 4, .int v] [] (hm_hC k ad w h n s) Q := by
  refine r_iload_n k_22_0 rfl ?_
  refine r_sipush k_22_1 cs_140 ?_
  refine r_sipush k_22_4 cs_210 ?_
  refine r_calls3 m_22 k_22_7 cl_7_78 m_13 (by decide) rfl rfl (Nat.le_of_ble_eq_true rfl) (Nat.le_of_ble_eq_true rfl) ?_
  refine s_13 ?_
  rw [show (nI 140).toInt = 140 by decide +kernel, show (nI 210).toInt = 210 by decide +kernel]
  rw [if_neg hv]
  refine r_if_ne k_22_10 rfl (fun z => absurd z (fun z => z rfl)) (fun c_10 => ?_)
  refine r_sipush k_22_13 cs_m1002 ?_
  exact hm_T.ret m_22 k_22_16 rfl hQ
set_option maxRecDepth 20000 in
theorem s_22 {d n s : Nat} {k : hm_M} {ad : hm_AD} {w : hm_W} {h : Nat → Option va_E} {Q : Option Value → hm_H → Prop} {v : Int32} {nb : Nat} (hv : (140 ≤ v.toInt ∧ v.toInt ≤ 210)) (hb : k 2 0 = nI nb) (hb12 : nb ≤ 12) (hQ : Q (some (.int (if nb = 12 then -1004 else nI nb))) (hm_hC (if nb = 12 then k else hm_uM (hm_uM k 3 (upd (k 3) nb v)) 2 (fun _ => nI (nb + 1))) ad w h n s)) : hm_T (d + 1) 22 0 [.ref 4, .int v] [] (hm_hC k ad w h n s) Q := by
  refine r_iload_n k_22_0 rfl ?_
  refine r_sipush k_22_1 cs_140 ?_
  refine r_sipush k_22_4 cs_210 ?_
  refine r_calls3 m_22 k_22_7 cl_7_78 m_13 (by decide) rfl rfl (Nat.le_of_ble_eq_true rfl) (Nat.le_of_ble_eq_true rfl) ?_
  refine s_13 ?_
  rw [show (nI 140).toInt = 140 by decide +kernel, show (nI 210).toInt = 210 by decide +kernel]
  rw [if_pos hv]
  refine r_if_ne k_22_10 rfl (fun c_10 => ?_) (fun z => absurd (show ¬ (1 : Int32) = 0 by decide) z)
  refine r_aload_n k_22_17 rfl ?_
  refine r_get m_22 k_22_18 fl_7_19 rfl rfl ?_
  refine r_iload_n k_22_21 rfl ?_
  refine r_callv2 m_22 k_22_22 cl_7_96 m_23 (by decide) rfl rfl (Nat.le_of_ble_eq_true rfl) (Nat.le_of_ble_eq_true rfl) rfl rfl ?_
  refine s_23 hb hb12 ?_
  exact hm_T.ret m_22 k_22_25 rfl hQ
def oc_rate (k : hm_M) (v : Int32) : Int32 × hm_M := if (0 ≤ v.toInt ∧ v.toInt ≤ 100) then (k 23 0, hm_uM k 23 (fun _ => v)) else (-1002, k)
set_option maxRecDepth 20000 in
theorem s_109 {d n s : Nat} {k : hm_M} {ad : hm_AD} {w : hm_W} {h : Nat → Option va_E} {Q : Option Value → hm_H → Prop} {v : Int32} (hQ : Q (some (.int (oc_rate k v).1)) (hm_hC (oc_rate k v).2 ad w h n s)) : hm_T (d + 1) 109 0 [.ref 4, .int v, .retAddr 0] [] (hm_hC k ad w h n s) Q := by
  refine r_iload_n k_109_0 rfl ?_
  refine r_iconst k_109_1 ci_0 ?_
  refine r_bipush k_109_2 cb_100 ?_
  refine r_calls3 m_109 k_109_4 cl_7_78 m_13 (by decide) rfl rfl (Nat.le_of_ble_eq_true rfl) (Nat.le_of_ble_eq_true rfl) ?_
  refine s_13 ?_
  rw [show (nI 0).toInt = 0 by decide +kernel, show (nI 100).toInt = 100 by decide +kernel]
  refine r_if_ne k_109_7 rfl (fun c_7 => ?_) (fun c_7 => ?_)
  · have c_7 := hm_if1 c_7
    refine r_aload_n k_109_14 rfl ?_
    refine r_get m_109 k_109_15 fl_7_72 rfl rfl ?_
    refine r_istore_n k_109_18 rfl ?_
    refine r_aload_n k_109_19 rfl ?_
    refine r_iload_n k_109_20 rfl ?_
    refine r_put m_109 k_109_21 fl_7_72 rfl (Nat.le_of_ble_eq_true rfl) rfl rfl (wC_23 _) ?_
    refine r_iload_n k_109_24 rfl ?_
    exact hm_T.ret m_109 k_109_25 rfl (by unfold oc_rate at hQ; rw [if_pos c_7] at hQ; exact hQ)
  · have c_7 := hm_if0 (Decidable.of_not_not c_7)
    refine r_sipush k_109_10 cs_m1002 ?_
    exact hm_T.ret m_109 k_109_13 rfl (by unfold oc_rate at hQ; rw [if_neg c_7] at hQ; exact hQ)
def hm_byc (b : Int64) (i : Nat) : Int32 := (b.toUInt64 >>> ((nI 8 * nI i).toInt64.toUInt64 &&& Int64.toUInt64 63)).toInt64.toInt32 &&& nI 255
def hm_fdc (b : Int64) : Nat → Nat → hm_M → hm_M
  | 0, _, m => m
  | j + 1, tx, m => hm_fdc b j (tx + 1) (hm_uM (hm_uM m 6 (upd (m 6) tx (hm_byc b j))) 7 (fun _ => nI tx + nI 1))
set_option maxRecDepth 20000 in
theorem l_25 {d n s : Nat} {ad : hm_AD} {w : hm_W} {h : Nat → Option va_E} {Q : Option Value → hm_H → Prop} {x : Int32} {b : Int64} : ∀ (j tx : Nat) (k : hm_M), k 7 0 = nI tx → tx + j ≤ 100 → Q (some (.int (nI (tx + j)))) (hm_hC (hm_fdc b j tx k) ad w h n s) → hm_T d 25 20 [.ref 25, .int x, .long b, .retAddr 0, .int (hm_dn j)] [] (hm_hC k ad w h n s) Q := by
  intro j
  induction j with
  | zero =>
    intro tx k ht htk hQ
    refine r_iload k_25_20 rfl ?_
    refine r_if_lt k_25_22 rfl (fun c_22 => ?_) (fun z => absurd (show (-1 : Int32) < 0 by decide) z)
    refine r_aload_n k_25_62 rfl ?_
    refine r_get m_25 k_25_63 fl_6_15 rfl rfl ?_
    rw [show k 7 0 = nI tx from ht]
    exact hm_T.ret m_25 k_25_66 rfl hQ
  | succ j ih =>
    intro tx k ht htk hQ
    refine r_iload k_25_20 rfl ?_
    refine r_if_lt k_25_22 rfl (fun z => absurd z (nI_pos (n := j) (by omega))) (fun c_22 => ?_)
    refine r_aload_n k_25_25 rfl ?_
    refine r_get m_25 k_25_26 fl_6_9 rfl rfl ?_
    refine r_aload_n k_25_29 rfl ?_
    refine r_get m_25 k_25_30 fl_6_15 rfl rfl ?_
    rw [show k 7 0 = nI tx from ht]
    refine r_lload_n k_25_33 rfl ?_
    refine r_bipush k_25_34 cb_8 ?_
    refine r_iload k_25_36 rfl ?_
    refine r_imul k_25_38 ?_
    refine r_lushr k_25_39 ?_
    refine r_l2i k_25_40 ?_
    refine r_sipush k_25_41 cs_255 ?_
    refine r_iand k_25_44 (show hm_T _ _ _ _ (.int (hm_byc b j) :: _) _ _ from ?_)
    refine r_iastn (k := tx) k_25_45 rfl rfl rfl (by omega) (by decide) (wC_6 _) ?_
    refine r_aload_n k_25_46 rfl ?_
    refine r_dup k_25_47 rfl ?_
    refine r_get m_25 k_25_48 fl_6_15 rfl rfl ?_
    rw [show hm_uM k 6 (upd (k 6) tx (hm_byc b j)) 7 0 = nI tx from ht]
    refine r_iconst k_25_51 ci_1 ?_
    refine r_iadd k_25_52 ?_
    refine r_put m_25 k_25_53 fl_6_15 rfl (Nat.le_of_ble_eq_true rfl) rfl rfl (wC_7 _) ?_
    refine r_iincn k_25_56 rfl (hm_dn_dec j) rfl ?_
    refine r_goto k_25_59 rfl ?_
    refine ih (tx + 1) _ (nI_add tx 1) (by omega) ?_
    rw [show tx + (j + 1) = tx + 1 + j by omega] at hQ
    exact hQ
set_option maxRecDepth 20000 in
theorem s_24_out {d n s : Nat} {k : hm_M} {ad : hm_AD} {w : hm_W} {h : Nat → Option va_E} {Q : Option Value → hm_H → Prop} {x : Int32} {b : Int64} (hx : ¬ (1 ≤ x.toInt ∧ x.toInt ≤ 8)) (hQ : Q (some (.int (-1002))) (hm_hC k ad w h n s)) : hm_T (d + 1) 24 0 [.ref 4, .int x, .long b, .retAddr 0] [] (hm_hC k ad w h n s) Q := by
  refine r_iload_n k_24_0 rfl ?_
  refine r_iconst k_24_1 ci_1 ?_
  refine r_bipush k_24_2 cb_8 ?_
  refine r_calls3 m_24 k_24_4 cl_7_78 m_13 (by decide) rfl rfl (Nat.le_of_ble_eq_true rfl) (Nat.le_of_ble_eq_true rfl) ?_
  refine s_13 ?_
  rw [show (nI 1).toInt = 1 by decide +kernel, show (nI 8).toInt = 8 by decide +kernel]
  rw [if_neg hx]
  refine r_if_ne k_24_7 rfl (fun z => absurd z (fun z => z rfl)) (fun c_7 => ?_)
  refine r_sipush k_24_10 cs_m1002 ?_
  exact hm_T.ret m_24 k_24_13 rfl hQ
set_option maxRecDepth 20000 in
theorem s_25_full {d n s : Nat} {k : hm_M} {ad : hm_AD} {w : hm_W} {h : Nat → Option va_E} {Q : Option Value → hm_H → Prop} {N tx : Nat} {b : Int64} (ht : k 7 0 = nI tx) (htx : tx ≤ 100) (hN : N ≤ 8) (hf : 100 < tx + N) (hQ : Q (some (.int (-1004))) (hm_hC k ad w h n s)) : hm_T d 25 0 [.ref 25, .int (nI N), .long b, .retAddr 0, .retAddr 0] [] (hm_hC k ad w h n s) Q := by
  refine r_aload_n k_25_0 rfl ?_
  refine r_get m_25 k_25_1 fl_6_15 rfl rfl ?_
  rw [ht]
  refine r_iload_n k_25_4 rfl ?_
  refine r_iadd k_25_5 ?_
  rw [nI_add]
  refine r_bipush k_25_6 cb_100 ?_
  refine r_icmp_le k_25_8 rfl (fun z => absurd z (nI_ge (a := 100) (b := tx + N) (by omega) (by omega))) (fun c_8 => ?_)
  refine r_sipush k_25_11 cs_m1004 ?_
  exact hm_T.ret m_25 k_25_14 rfl hQ
set_option maxRecDepth 20000 in
theorem s_25 {d n s : Nat} {k : hm_M} {ad : hm_AD} {w : hm_W} {h : Nat → Option va_E} {Q : Option Value → hm_H → Prop} {N tx : Nat} {b : Int64} (ht : k 7 0 = nI tx) (hN : N ≤ 8) (hf : tx + N ≤ 100) (hQ : Q (some (.int (nI (tx + N)))) (hm_hC (hm_fdc b N tx k) ad w h n s)) : hm_T d 25 0 [.ref 25, .int (nI N), .long b, .retAddr 0, .retAddr 0] [] (hm_hC k ad w h n s) Q := by
  refine r_aload_n k_25_0 rfl ?_
  refine r_get m_25 k_25_1 fl_6_15 rfl rfl ?_
  rw [ht]
  refine r_iload_n k_25_4 rfl ?_
  refine r_iadd k_25_5 ?_
  rw [nI_add]
  refine r_bipush k_25_6 cb_100 ?_
  refine r_icmp_le k_25_8 rfl (fun c_8 => ?_) (fun z => absurd (nI_le (show tx + N ≤ 100 by omega) (by omega)) z)
  refine r_iload_n k_25_15 rfl ?_
  refine r_iconst k_25_16 ci_1 ?_
  refine r_isub k_25_17 ?_
  rw [hm_dn_sub]
  refine r_istore k_25_18 rfl ?_
  exact l_25 N tx k ht hf hQ
set_option maxRecDepth 20000 in
theorem s_24_full {d n s : Nat} {k : hm_M} {ad : hm_AD} {w : hm_W} {h : Nat → Option va_E} {Q : Option Value → hm_H → Prop} {N tx : Nat} {b : Int64} (ht : k 7 0 = nI tx) (hN : 1 ≤ N ∧ N ≤ 8) (htx : tx ≤ 100) (hf : 100 < tx + N) (hQ : Q (some (.int (-1004))) (hm_hC k ad w h n s)) : hm_T (d + 1) 24 0 [.ref 4, .int (nI N), .long b, .retAddr 0] [] (hm_hC k ad w h n s) Q := by
  refine r_iload_n k_24_0 rfl ?_
  refine r_iconst k_24_1 ci_1 ?_
  refine r_bipush k_24_2 cb_8 ?_
  refine r_calls3 m_24 k_24_4 cl_7_78 m_13 (by decide) rfl rfl (Nat.le_of_ble_eq_true rfl) (Nat.le_of_ble_eq_true rfl) ?_
  refine s_13 ?_
  rw [show (nI 1).toInt = 1 by decide +kernel, show (nI 8).toInt = 8 by decide +kernel]
  rw [if_pos (by rw [nI_toInt (by omega)]; omega)]
  refine r_if_ne k_24_7 rfl (fun c_7 => ?_) (fun z => absurd (show ¬ (1 : Int32) = 0 by decide) z)
  refine r_aload_n k_24_14 rfl ?_
  refine r_get m_24 k_24_15 fl_7_33 rfl rfl ?_
  refine r_iload_n k_24_18 rfl ?_
  refine r_lload_n k_24_19 rfl ?_
  refine r_callv3 m_24 k_24_20 cl_7_113 m_25 (by decide) rfl rfl (Nat.le_of_ble_eq_true rfl) (Nat.le_of_ble_eq_true rfl) rfl rfl ?_
  refine s_25_full ht htx hN.2 hf ?_
  exact hm_T.ret m_24 k_24_23 rfl hQ
set_option maxRecDepth 20000 in
theorem s_24 {d n s : Nat} {k : hm_M} {ad : hm_AD} {w : hm_W} {h : Nat → Option va_E} {Q : Option Value → hm_H → Prop} {N tx : Nat} {b : Int64} (ht : k 7 0 = nI tx) (hN : 1 ≤ N ∧ N ≤ 8) (hf : tx + N ≤ 100) (hQ : Q (some (.int (nI (tx + N)))) (hm_hC (hm_fdc b N tx k) ad w h n s)) : hm_T (d + 1) 24 0 [.ref 4, .int (nI N), .long b, .retAddr 0] [] (hm_hC k ad w h n s) Q := by
  refine r_iload_n k_24_0 rfl ?_
  refine r_iconst k_24_1 ci_1 ?_
  refine r_bipush k_24_2 cb_8 ?_
  refine r_calls3 m_24 k_24_4 cl_7_78 m_13 (by decide) rfl rfl (Nat.le_of_ble_eq_true rfl) (Nat.le_of_ble_eq_true rfl) ?_
  refine s_13 ?_
  rw [show (nI 1).toInt = 1 by decide +kernel, show (nI 8).toInt = 8 by decide +kernel]
  rw [if_pos (by rw [nI_toInt (by omega)]; omega)]
  refine r_if_ne k_24_7 rfl (fun c_7 => ?_) (fun z => absurd (show ¬ (1 : Int32) = 0 by decide) z)
  refine r_aload_n k_24_14 rfl ?_
  refine r_get m_24 k_24_15 fl_7_33 rfl rfl ?_
  refine r_iload_n k_24_18 rfl ?_
  refine r_lload_n k_24_19 rfl ?_
  refine r_callv3 m_24 k_24_20 cl_7_113 m_25 (by decide) rfl rfl (Nat.le_of_ble_eq_true rfl) (Nat.le_of_ble_eq_true rfl) rfl rfl ?_
  refine s_25 ht hN.2 hf ?_
  exact hm_T.ret m_24 k_24_23 rfl hQ
set_option maxRecDepth 20000 in
theorem s_12_0_out {d n s : Nat} {k : hm_M} {ad : hm_AD} {g : Nat → Nat × Nat} {w : hm_W} {nc np : Nat} {h : Nat → Option va_E} {Q : Option Value → hm_H → Prop} (X : hm_D k ad g nc np n h) {v : Int32} (hv : ¬ (0 ≤ v.toInt ∧ v.toInt ≤ 4)) (hQ : Q (some (.int (-1002))) (hm_hC k ad w h n s)) : hm_T (d + 2) 12 0 [.ref 4, .int (nI 0), .int v, .retAddr 0] [] (hm_hC k ad w h n s) Q := by
  refine r_iload_n k_12_0 rfl ?_
  refine r_iconst k_12_1 ci_0 ?_
  refine r_iconst k_12_2 ci_2 ?_
  refine r_calls3 m_12 k_12_3 cl_7_78 m_13 (by decide) rfl rfl (Nat.le_of_ble_eq_true rfl) (Nat.le_of_ble_eq_true rfl) ?_
  refine s_13 ?_
  rw [if_pos (by decide +kernel)]
  refine r_if_eq k_12_6 rfl (fun z => absurd z (show ¬ (1 : Int32) = 0 by decide)) (fun c_6 => ?_)
  refine r_iload_n k_12_9 rfl ?_
  refine r_iconst k_12_10 ci_0 ?_
  refine r_gets m_12 k_12_11 sl_7_82 ?_
  refine r_iload_n k_12_14 rfl ?_
  refine r_ialdn (k := 0) k_12_15 X.h1 (Or.inr rfl) rfl (by decide) (by decide) (show hm_T _ _ _ _ (.int (nI 4) :: _) _ _ from ?_)
  refine r_calls3 m_12 k_12_16 cl_7_78 m_13 (by decide) rfl rfl (Nat.le_of_ble_eq_true rfl) (Nat.le_of_ble_eq_true rfl) ?_
  refine s_13 ?_
  rw [show (nI 0).toInt = 0 by decide +kernel, show (nI 4).toInt = 4 by decide +kernel, if_neg hv]
  refine r_if_ne k_12_19 rfl (fun z => absurd z (fun z => z rfl)) (fun c_19 => ?_)
  refine r_sipush k_12_22 cs_m1002 ?_
  exact hm_T.ret m_12 k_12_25 rfl hQ
def oc_house_0 (k : hm_M) (v : Int32) : Int32 × hm_M := if hm_mx (k 40) 400 0 (nI 0) ≤ v then (k 0 0, hm_uM k 0 (upd (k 0) 0 v)) else (-1003, k)
set_option maxRecDepth 20000 in
theorem s_12_0 {d n s : Nat} {k : hm_M} {ad : hm_AD} {g : Nat → Nat × Nat} {w : hm_W} {nc np : Nat} {h : Nat → Option va_E} {Q : Option Value → hm_H → Prop} (X : hm_D k ad g nc np n h) {v : Int32} (hv : 0 ≤ v.toInt ∧ v.toInt ≤ 4) (hQ : Q (some (.int (oc_house_0 k v).1)) (hm_hC (oc_house_0 k v).2 ad w h n s)) : hm_T (d + 2) 12 0 [.ref 4, .int (nI 0), .int v, .retAddr 0] [] (hm_hC k ad w h n s) Q := by
  refine r_iload_n k_12_0 rfl ?_
  refine r_iconst k_12_1 ci_0 ?_
  refine r_iconst k_12_2 ci_2 ?_
  refine r_calls3 m_12 k_12_3 cl_7_78 m_13 (by decide) rfl rfl (Nat.le_of_ble_eq_true rfl) (Nat.le_of_ble_eq_true rfl) ?_
  refine s_13 ?_
  rw [if_pos (by decide +kernel)]
  refine r_if_eq k_12_6 rfl (fun z => absurd z (show ¬ (1 : Int32) = 0 by decide)) (fun c_6 => ?_)
  refine r_iload_n k_12_9 rfl ?_
  refine r_iconst k_12_10 ci_0 ?_
  refine r_gets m_12 k_12_11 sl_7_82 ?_
  refine r_iload_n k_12_14 rfl ?_
  refine r_ialdn (k := 0) k_12_15 X.h1 (Or.inr rfl) rfl (by decide) (by decide) (show hm_T _ _ _ _ (.int (nI 4) :: _) _ _ from ?_)
  refine r_calls3 m_12 k_12_16 cl_7_78 m_13 (by decide) rfl rfl (Nat.le_of_ble_eq_true rfl) (Nat.le_of_ble_eq_true rfl) ?_
  refine s_13 ?_
  rw [show (nI 0).toInt = 0 by decide +kernel, show (nI 4).toInt = 4 by decide +kernel, if_pos hv]
  refine r_if_ne k_12_19 rfl (fun c_19 => ?_) (fun z => absurd (show ¬ (1 : Int32) = 0 by decide) z)
  refine r_aload_n k_12_26 rfl ?_
  refine r_get m_12 k_12_27 fl_7_26 rfl rfl ?_
  refine r_gets m_12 k_12_30 sl_7_85 ?_
  refine r_iload_n k_12_33 rfl ?_
  refine r_ialdn (k := 0) k_12_34 X.h2 (Or.inr rfl) rfl (by decide) (by decide) (show hm_T _ _ _ _ (.int (nI 0) :: _) _ _ from ?_)
  refine r_callv2 m_12 k_12_35 cl_7_88 m_14 (by decide) rfl rfl (Nat.le_of_ble_eq_true rfl) (Nat.le_of_ble_eq_true rfl) rfl rfl ?_
  refine s_14 (r := 0) (by decide) ?_
  refine r_iload_n k_12_38 rfl ?_
  refine r_icmp_le k_12_39 rfl (fun c_39 => ?_) (fun c_39 => ?_)
  · refine r_aload_n k_12_46 rfl ?_
    refine r_get m_12 k_12_47 fl_7_7 rfl rfl ?_
    refine r_iload_n k_12_50 rfl ?_
    refine r_ialdn (k := 0) k_12_51 rfl (Or.inl rfl) rfl (by decide) (by decide) ?_
    refine r_istore_n k_12_52 rfl ?_
    refine r_aload_n k_12_53 rfl ?_
    refine r_get m_12 k_12_54 fl_7_7 rfl rfl ?_
    refine r_iload_n k_12_57 rfl ?_
    refine r_iload_n k_12_58 rfl ?_
    refine r_iastn (k := 0) k_12_59 rfl rfl rfl (by decide) (by decide) (wC_0 _) ?_
    refine r_iload_n k_12_60 rfl ?_
    exact hm_T.ret m_12 k_12_61 rfl (by unfold oc_house_0 at hQ; rw [if_pos c_39] at hQ; exact hQ)
  · refine r_sipush k_12_42 cs_m1003 ?_
    exact hm_T.ret m_12 k_12_45 rfl (by unfold oc_house_0 at hQ; rw [if_neg c_39] at hQ; exact hQ)
set_option maxRecDepth 20000 in
theorem s_12_1_out {d n s : Nat} {k : hm_M} {ad : hm_AD} {g : Nat → Nat × Nat} {w : hm_W} {nc np : Nat} {h : Nat → Option va_E} {Q : Option Value → hm_H → Prop} (X : hm_D k ad g nc np n h) {v : Int32} (hv : ¬ (0 ≤ v.toInt ∧ v.toInt ≤ 3)) (hQ : Q (some (.int (-1002))) (hm_hC k ad w h n s)) : hm_T (d + 2) 12 0 [.ref 4, .int (nI 1), .int v, .retAddr 0] [] (hm_hC k ad w h n s) Q := by
  refine r_iload_n k_12_0 rfl ?_
  refine r_iconst k_12_1 ci_0 ?_
  refine r_iconst k_12_2 ci_2 ?_
  refine r_calls3 m_12 k_12_3 cl_7_78 m_13 (by decide) rfl rfl (Nat.le_of_ble_eq_true rfl) (Nat.le_of_ble_eq_true rfl) ?_
  refine s_13 ?_
  rw [if_pos (by decide +kernel)]
  refine r_if_eq k_12_6 rfl (fun z => absurd z (show ¬ (1 : Int32) = 0 by decide)) (fun c_6 => ?_)
  refine r_iload_n k_12_9 rfl ?_
  refine r_iconst k_12_10 ci_0 ?_
  refine r_gets m_12 k_12_11 sl_7_82 ?_
  refine r_iload_n k_12_14 rfl ?_
  refine r_ialdn (k := 1) k_12_15 X.h1 (Or.inr rfl) rfl (by decide) (by decide) (show hm_T _ _ _ _ (.int (nI 3) :: _) _ _ from ?_)
  refine r_calls3 m_12 k_12_16 cl_7_78 m_13 (by decide) rfl rfl (Nat.le_of_ble_eq_true rfl) (Nat.le_of_ble_eq_true rfl) ?_
  refine s_13 ?_
  rw [show (nI 0).toInt = 0 by decide +kernel, show (nI 3).toInt = 3 by decide +kernel, if_neg hv]
  refine r_if_ne k_12_19 rfl (fun z => absurd z (fun z => z rfl)) (fun c_19 => ?_)
  refine r_sipush k_12_22 cs_m1002 ?_
  exact hm_T.ret m_12 k_12_25 rfl hQ
def oc_house_1 (k : hm_M) (v : Int32) : Int32 × hm_M := if hm_mx (k 42) 400 0 (nI 0) ≤ v then (k 0 1, hm_uM k 0 (upd (k 0) 1 v)) else (-1003, k)
set_option maxRecDepth 20000 in
theorem s_12_1 {d n s : Nat} {k : hm_M} {ad : hm_AD} {g : Nat → Nat × Nat} {w : hm_W} {nc np : Nat} {h : Nat → Option va_E} {Q : Option Value → hm_H → Prop} (X : hm_D k ad g nc np n h) {v : Int32} (hv : 0 ≤ v.toInt ∧ v.toInt ≤ 3) (hQ : Q (some (.int (oc_house_1 k v).1)) (hm_hC (oc_house_1 k v).2 ad w h n s)) : hm_T (d + 2) 12 0 [.ref 4, .int (nI 1), .int v, .retAddr 0] [] (hm_hC k ad w h n s) Q := by
  refine r_iload_n k_12_0 rfl ?_
  refine r_iconst k_12_1 ci_0 ?_
  refine r_iconst k_12_2 ci_2 ?_
  refine r_calls3 m_12 k_12_3 cl_7_78 m_13 (by decide) rfl rfl (Nat.le_of_ble_eq_true rfl) (Nat.le_of_ble_eq_true rfl) ?_
  refine s_13 ?_
  rw [if_pos (by decide +kernel)]
  refine r_if_eq k_12_6 rfl (fun z => absurd z (show ¬ (1 : Int32) = 0 by decide)) (fun c_6 => ?_)
  refine r_iload_n k_12_9 rfl ?_
  refine r_iconst k_12_10 ci_0 ?_
  refine r_gets m_12 k_12_11 sl_7_82 ?_
  refine r_iload_n k_12_14 rfl ?_
  refine r_ialdn (k := 1) k_12_15 X.h1 (Or.inr rfl) rfl (by decide) (by decide) (show hm_T _ _ _ _ (.int (nI 3) :: _) _ _ from ?_)
  refine r_calls3 m_12 k_12_16 cl_7_78 m_13 (by decide) rfl rfl (Nat.le_of_ble_eq_true rfl) (Nat.le_of_ble_eq_true rfl) ?_
  refine s_13 ?_
  rw [show (nI 0).toInt = 0 by decide +kernel, show (nI 3).toInt = 3 by decide +kernel, if_pos hv]
  refine r_if_ne k_12_19 rfl (fun c_19 => ?_) (fun z => absurd (show ¬ (1 : Int32) = 0 by decide) z)
  refine r_aload_n k_12_26 rfl ?_
  refine r_get m_12 k_12_27 fl_7_26 rfl rfl ?_
  refine r_gets m_12 k_12_30 sl_7_85 ?_
  refine r_iload_n k_12_33 rfl ?_
  refine r_ialdn (k := 1) k_12_34 X.h2 (Or.inr rfl) rfl (by decide) (by decide) (show hm_T _ _ _ _ (.int (nI 2) :: _) _ _ from ?_)
  refine r_callv2 m_12 k_12_35 cl_7_88 m_14 (by decide) rfl rfl (Nat.le_of_ble_eq_true rfl) (Nat.le_of_ble_eq_true rfl) rfl rfl ?_
  refine s_14 (r := 2) (by decide) ?_
  refine r_iload_n k_12_38 rfl ?_
  refine r_icmp_le k_12_39 rfl (fun c_39 => ?_) (fun c_39 => ?_)
  · refine r_aload_n k_12_46 rfl ?_
    refine r_get m_12 k_12_47 fl_7_7 rfl rfl ?_
    refine r_iload_n k_12_50 rfl ?_
    refine r_ialdn (k := 1) k_12_51 rfl (Or.inl rfl) rfl (by decide) (by decide) ?_
    refine r_istore_n k_12_52 rfl ?_
    refine r_aload_n k_12_53 rfl ?_
    refine r_get m_12 k_12_54 fl_7_7 rfl rfl ?_
    refine r_iload_n k_12_57 rfl ?_
    refine r_iload_n k_12_58 rfl ?_
    refine r_iastn (k := 1) k_12_59 rfl rfl rfl (by decide) (by decide) (wC_0 _) ?_
    refine r_iload_n k_12_60 rfl ?_
    exact hm_T.ret m_12 k_12_61 rfl (by unfold oc_house_1 at hQ; rw [if_pos c_39] at hQ; exact hQ)
  · refine r_sipush k_12_42 cs_m1003 ?_
    exact hm_T.ret m_12 k_12_45 rfl (by unfold oc_house_1 at hQ; rw [if_neg c_39] at hQ; exact hQ)
set_option maxRecDepth 20000 in
theorem s_12_2_out {d n s : Nat} {k : hm_M} {ad : hm_AD} {g : Nat → Nat × Nat} {w : hm_W} {nc np : Nat} {h : Nat → Option va_E} {Q : Option Value → hm_H → Prop} (X : hm_D k ad g nc np n h) {v : Int32} (hv : ¬ (0 ≤ v.toInt ∧ v.toInt ≤ 8)) (hQ : Q (some (.int (-1002))) (hm_hC k ad w h n s)) : hm_T (d + 2) 12 0 [.ref 4, .int (nI 2), .int v, .retAddr 0] [] (hm_hC k ad w h n s) Q := by
  refine r_iload_n k_12_0 rfl ?_
  refine r_iconst k_12_1 ci_0 ?_
  refine r_iconst k_12_2 ci_2 ?_
  refine r_calls3 m_12 k_12_3 cl_7_78 m_13 (by decide) rfl rfl (Nat.le_of_ble_eq_true rfl) (Nat.le_of_ble_eq_true rfl) ?_
  refine s_13 ?_
  rw [if_pos (by decide +kernel)]
  refine r_if_eq k_12_6 rfl (fun z => absurd z (show ¬ (1 : Int32) = 0 by decide)) (fun c_6 => ?_)
  refine r_iload_n k_12_9 rfl ?_
  refine r_iconst k_12_10 ci_0 ?_
  refine r_gets m_12 k_12_11 sl_7_82 ?_
  refine r_iload_n k_12_14 rfl ?_
  refine r_ialdn (k := 2) k_12_15 X.h1 (Or.inr rfl) rfl (by decide) (by decide) (show hm_T _ _ _ _ (.int (nI 8) :: _) _ _ from ?_)
  refine r_calls3 m_12 k_12_16 cl_7_78 m_13 (by decide) rfl rfl (Nat.le_of_ble_eq_true rfl) (Nat.le_of_ble_eq_true rfl) ?_
  refine s_13 ?_
  rw [show (nI 0).toInt = 0 by decide +kernel, show (nI 8).toInt = 8 by decide +kernel, if_neg hv]
  refine r_if_ne k_12_19 rfl (fun z => absurd z (fun z => z rfl)) (fun c_19 => ?_)
  refine r_sipush k_12_22 cs_m1002 ?_
  exact hm_T.ret m_12 k_12_25 rfl hQ
def oc_house_2 (k : hm_M) (v : Int32) : Int32 × hm_M := if hm_mx (k 43) 400 0 (nI 0) ≤ v then (k 0 2, hm_uM k 0 (upd (k 0) 2 v)) else (-1003, k)
set_option maxRecDepth 20000 in
theorem s_12_2 {d n s : Nat} {k : hm_M} {ad : hm_AD} {g : Nat → Nat × Nat} {w : hm_W} {nc np : Nat} {h : Nat → Option va_E} {Q : Option Value → hm_H → Prop} (X : hm_D k ad g nc np n h) {v : Int32} (hv : 0 ≤ v.toInt ∧ v.toInt ≤ 8) (hQ : Q (some (.int (oc_house_2 k v).1)) (hm_hC (oc_house_2 k v).2 ad w h n s)) : hm_T (d + 2) 12 0 [.ref 4, .int (nI 2), .int v, .retAddr 0] [] (hm_hC k ad w h n s) Q := by
  refine r_iload_n k_12_0 rfl ?_
  refine r_iconst k_12_1 ci_0 ?_
  refine r_iconst k_12_2 ci_2 ?_
  refine r_calls3 m_12 k_12_3 cl_7_78 m_13 (by decide) rfl rfl (Nat.le_of_ble_eq_true rfl) (Nat.le_of_ble_eq_true rfl) ?_
  refine s_13 ?_
  rw [if_pos (by decide +kernel)]
  refine r_if_eq k_12_6 rfl (fun z => absurd z (show ¬ (1 : Int32) = 0 by decide)) (fun c_6 => ?_)
  refine r_iload_n k_12_9 rfl ?_
  refine r_iconst k_12_10 ci_0 ?_
  refine r_gets m_12 k_12_11 sl_7_82 ?_
  refine r_iload_n k_12_14 rfl ?_
  refine r_ialdn (k := 2) k_12_15 X.h1 (Or.inr rfl) rfl (by decide) (by decide) (show hm_T _ _ _ _ (.int (nI 8) :: _) _ _ from ?_)
  refine r_calls3 m_12 k_12_16 cl_7_78 m_13 (by decide) rfl rfl (Nat.le_of_ble_eq_true rfl) (Nat.le_of_ble_eq_true rfl) ?_
  refine s_13 ?_
  rw [show (nI 0).toInt = 0 by decide +kernel, show (nI 8).toInt = 8 by decide +kernel, if_pos hv]
  refine r_if_ne k_12_19 rfl (fun c_19 => ?_) (fun z => absurd (show ¬ (1 : Int32) = 0 by decide) z)
  refine r_aload_n k_12_26 rfl ?_
  refine r_get m_12 k_12_27 fl_7_26 rfl rfl ?_
  refine r_gets m_12 k_12_30 sl_7_85 ?_
  refine r_iload_n k_12_33 rfl ?_
  refine r_ialdn (k := 2) k_12_34 X.h2 (Or.inr rfl) rfl (by decide) (by decide) (show hm_T _ _ _ _ (.int (nI 3) :: _) _ _ from ?_)
  refine r_callv2 m_12 k_12_35 cl_7_88 m_14 (by decide) rfl rfl (Nat.le_of_ble_eq_true rfl) (Nat.le_of_ble_eq_true rfl) rfl rfl ?_
  refine s_14 (r := 3) (by decide) ?_
  refine r_iload_n k_12_38 rfl ?_
  refine r_icmp_le k_12_39 rfl (fun c_39 => ?_) (fun c_39 => ?_)
  · refine r_aload_n k_12_46 rfl ?_
    refine r_get m_12 k_12_47 fl_7_7 rfl rfl ?_
    refine r_iload_n k_12_50 rfl ?_
    refine r_ialdn (k := 2) k_12_51 rfl (Or.inl rfl) rfl (by decide) (by decide) ?_
    refine r_istore_n k_12_52 rfl ?_
    refine r_aload_n k_12_53 rfl ?_
    refine r_get m_12 k_12_54 fl_7_7 rfl rfl ?_
    refine r_iload_n k_12_57 rfl ?_
    refine r_iload_n k_12_58 rfl ?_
    refine r_iastn (k := 2) k_12_59 rfl rfl rfl (by decide) (by decide) (wC_0 _) ?_
    refine r_iload_n k_12_60 rfl ?_
    exact hm_T.ret m_12 k_12_61 rfl (by unfold oc_house_2 at hQ; rw [if_pos c_39] at hQ; exact hQ)
  · refine r_sipush k_12_42 cs_m1003 ?_
    exact hm_T.ret m_12 k_12_45 rfl (by unfold oc_house_2 at hQ; rw [if_neg c_39] at hQ; exact hQ)
set_option maxRecDepth 20000 in
theorem s_12_bad {d n s : Nat} {k : hm_M} {ad : hm_AD} {w : hm_W} {h : Nat → Option va_E} {Q : Option Value → hm_H → Prop} {x v : Int32} (hw : ¬ (0 ≤ x.toInt ∧ x.toInt ≤ 2)) (hQ : Q (some (.int (-1002))) (hm_hC k ad w h n s)) : hm_T (d + 2) 12 0 [.ref 4, .int x, .int v, .retAddr 0] [] (hm_hC k ad w h n s) Q := by
  refine r_iload_n k_12_0 rfl ?_
  refine r_iconst k_12_1 ci_0 ?_
  refine r_iconst k_12_2 ci_2 ?_
  refine r_calls3 m_12 k_12_3 cl_7_78 m_13 (by decide) rfl rfl (Nat.le_of_ble_eq_true rfl) (Nat.le_of_ble_eq_true rfl) ?_
  refine s_13 ?_
  rw [show (nI 0).toInt = 0 by decide +kernel, show (nI 2).toInt = 2 by decide +kernel]
  rw [if_neg hw]
  refine r_if_eq k_12_6 rfl (fun c_6 => ?_) (fun z => absurd rfl z)
  refine r_sipush k_12_22 cs_m1002 ?_
  exact hm_T.ret m_12 k_12_25 rfl hQ
set_option maxRecDepth 20000 in
theorem s_16_bad {d n s : Nat} {k : hm_M} {ad : hm_AD} {w : hm_W} {h : Nat → Option va_E} {Q : Option Value → hm_H → Prop} {x v : Int32} (hw : ¬ (0 ≤ x.toInt ∧ x.toInt ≤ 2)) (hQ : Q (some (.int (-1001))) (hm_hC k ad w h n s)) : hm_T (d + 4) 16 0 [.ref 4, .int x, .int v, .retAddr 0] [] (hm_hC k ad w h n s) Q := by
  refine r_iload_n k_16_0 rfl ?_
  refine r_iconst k_16_1 ci_0 ?_
  refine r_iconst k_16_2 ci_2 ?_
  refine r_calls3 m_16 k_16_3 cl_7_78 m_13 (by decide) rfl rfl (Nat.le_of_ble_eq_true rfl) (Nat.le_of_ble_eq_true rfl) ?_
  refine s_13 ?_
  rw [show (nI 0).toInt = 0 by decide +kernel, show (nI 2).toInt = 2 by decide +kernel]
  rw [if_neg hw]
  refine r_if_ne k_16_6 rfl (fun z => absurd z (fun z => z rfl)) (fun c_6 => ?_)
  refine r_sipush k_16_9 cs_m1001 ?_
  exact hm_T.ret m_16 k_16_12 rfl hQ
set_option maxRecDepth 20000 in
theorem s_16_out {d n s : Nat} {k : hm_M} {ad : hm_AD} {w : hm_W} {h : Nat → Option va_E} {Q : Option Value → hm_H → Prop} {x v : Int32} (hw : (0 ≤ x.toInt ∧ x.toInt ≤ 2)) (hv : ¬ (0 ≤ v.toInt ∧ v.toInt ≤ 1023)) (hQ : Q (some (.int (-1002))) (hm_hC k ad w h n s)) : hm_T (d + 4) 16 0 [.ref 4, .int x, .int v, .retAddr 0] [] (hm_hC k ad w h n s) Q := by
  refine r_iload_n k_16_0 rfl ?_
  refine r_iconst k_16_1 ci_0 ?_
  refine r_iconst k_16_2 ci_2 ?_
  refine r_calls3 m_16 k_16_3 cl_7_78 m_13 (by decide) rfl rfl (Nat.le_of_ble_eq_true rfl) (Nat.le_of_ble_eq_true rfl) ?_
  refine s_13 ?_
  rw [show (nI 0).toInt = 0 by decide +kernel, show (nI 2).toInt = 2 by decide +kernel]
  rw [if_pos hw]
  refine r_if_ne k_16_6 rfl (fun c_6 => ?_) (fun z => absurd (show ¬ (1 : Int32) = 0 by decide) z)
  refine r_iload_n k_16_13 rfl ?_
  refine r_iconst k_16_14 ci_0 ?_
  refine r_sipush k_16_15 cs_1023 ?_
  refine r_calls3 m_16 k_16_18 cl_7_78 m_13 (by decide) rfl rfl (Nat.le_of_ble_eq_true rfl) (Nat.le_of_ble_eq_true rfl) ?_
  refine s_13 ?_
  rw [show (nI 0).toInt = 0 by decide +kernel, show (nI 1023).toInt = 1023 by decide +kernel]
  rw [if_neg hv]
  refine r_if_ne k_16_21 rfl (fun z => absurd z (fun z => z rfl)) (fun c_21 => ?_)
  refine r_sipush k_16_24 cs_m1002 ?_
  exact hm_T.ret m_16 k_16_27 rfl hQ
def oc_open (k : hm_M) (j : Nat) (v : Int32) : Int32 × hm_M := if hm_all (hm_esc (hm_uM k 1 (upd (k 1) j v))) 400 0 = true then (k 1 j, hm_uM k 1 (upd (k 1) j v)) else (-1003, k)
set_option maxRecDepth 20000 in
theorem s_16 {d n s : Nat} {k : hm_M} {ad : hm_AD} {w : hm_W} {h : Nat → Option va_E} {Q : Option Value → hm_H → Prop} {j : Nat} {v : Int32} (hj : j < 3) (hv : (0 ≤ v.toInt ∧ v.toInt ≤ 1023)) (hQ : Q (some (.int (oc_open k j v).1)) (hm_hC (oc_open k j v).2 ad w h n s)) : hm_T (d + 4) 16 0 [.ref 4, .int (nI j), .int v, .retAddr 0] [] (hm_hC k ad w h n s) Q := by
  refine r_iload_n k_16_0 rfl ?_
  refine r_iconst k_16_1 ci_0 ?_
  refine r_iconst k_16_2 ci_2 ?_
  refine r_calls3 m_16 k_16_3 cl_7_78 m_13 (by decide) rfl rfl (Nat.le_of_ble_eq_true rfl) (Nat.le_of_ble_eq_true rfl) ?_
  refine s_13 ?_
  rw [show (nI 0).toInt = 0 by decide +kernel, show (nI 2).toInt = 2 by decide +kernel]
  rw [if_pos (by rw [nI_toInt (by omega)]; omega)]
  refine r_if_ne k_16_6 rfl (fun c_6 => ?_) (fun z => absurd (show ¬ (1 : Int32) = 0 by decide) z)
  refine r_iload_n k_16_13 rfl ?_
  refine r_iconst k_16_14 ci_0 ?_
  refine r_sipush k_16_15 cs_1023 ?_
  refine r_calls3 m_16 k_16_18 cl_7_78 m_13 (by decide) rfl rfl (Nat.le_of_ble_eq_true rfl) (Nat.le_of_ble_eq_true rfl) ?_
  refine s_13 ?_
  rw [show (nI 0).toInt = 0 by decide +kernel, show (nI 1023).toInt = 1023 by decide +kernel]
  rw [if_pos hv]
  refine r_if_ne k_16_21 rfl (fun c_21 => ?_) (fun z => absurd (show ¬ (1 : Int32) = 0 by decide) z)
  refine r_aload_n k_16_28 rfl ?_
  refine r_get m_16 k_16_29 fl_7_13 rfl rfl ?_
  refine r_iload_n k_16_32 rfl ?_
  refine r_ialdn (k := j) k_16_33 rfl (Or.inl rfl) rfl hj (by decide) ?_
  refine r_istore_n k_16_34 rfl ?_
  refine r_aload_n k_16_35 rfl ?_
  refine r_get m_16 k_16_36 fl_7_13 rfl rfl ?_
  refine r_iload_n k_16_39 rfl ?_
  refine r_iload_n k_16_40 rfl ?_
  refine r_iastn (k := j) k_16_41 rfl rfl rfl hj (by decide) (wC_1 _) ?_
  refine r_aload_n k_16_42 rfl ?_
  refine r_callv1 m_16 k_16_43 cl_7_92 m_17 (by decide) rfl rfl (Nat.le_of_ble_eq_true rfl) (Nat.le_of_ble_eq_true rfl) rfl rfl ?_
  refine s_17 ?_
  refine r_if_ne k_16_46 rfl (fun c_46 => ?_) (fun c_46 => ?_)
  · have c_46 := hm_bi1 c_46
    refine r_iload_n k_16_60 rfl ?_
    exact hm_T.ret m_16 k_16_61 rfl (by unfold oc_open at hQ; rw [if_pos c_46] at hQ; exact hQ)
  · have c_46 := hm_bi0 (Decidable.of_not_not c_46)
    refine r_aload_n k_16_49 rfl ?_
    refine r_get m_16 k_16_50 fl_7_13 rfl rfl ?_
    refine r_iload_n k_16_53 rfl ?_
    refine r_iload_n k_16_54 rfl ?_
    refine r_iastn (k := j) k_16_55 rfl rfl rfl hj (by decide) ((wC_1 _).trans (by rw [show upd (hm_uM k 1 (upd (k 1) j v) 1) j (k 1 j) = k 1 by rw [hm_uMe, upd_upd, upd_self], hm_uM2, hm_uMs])) ?_
    refine r_sipush k_16_56 cs_m1003 ?_
    exact hm_T.ret m_16 k_16_59 rfl (by unfold oc_open at hQ; rw [if_neg (by rw [c_46]; decide)] at hQ; exact hQ)
def oc_taken (k : hm_M) (hour x : Int32) : Int32 := if (0 ≤ hour.toInt ∧ hour.toInt ≤ 399) then (if (0 ≤ x.toInt ∧ x.toInt ≤ 5) then k (40 + x.toNatClampNeg) hour.toNatClampNeg else -1002) else -1002
set_option maxRecDepth 20000 in
theorem s_102 {d n s : Nat} {k : hm_M} {ad : hm_AD} {w : hm_W} {h : Nat → Option va_E} {Q : Option Value → hm_H → Prop} {hour x : Int32} (hQ : Q (some (.int (oc_taken k hour x))) (hm_hC k ad w h n s)) : hm_T (d + 2) 102 0 [.ref 4, .int hour, .int x] [] (hm_hC k ad w h n s) Q := by
  refine r_iload_n k_102_0 rfl ?_
  refine r_calls1 m_102 k_102_1 cl_7_151 m_64 (by decide) rfl rfl (Nat.le_of_ble_eq_true rfl) (Nat.le_of_ble_eq_true rfl) ?_
  refine s_64 ?_
  refine r_if_eq k_102_4 rfl (fun c_4 => ?_) (fun c_4 => ?_)
  · have c_4 := hm_if0 c_4
    refine r_sipush k_102_16 cs_m1002 ?_
    exact hm_T.ret m_102 k_102_19 rfl (by unfold oc_taken at hQ; rw [if_neg c_4] at hQ; exact hQ)
  · have c_4 := hm_if1 c_4
    refine r_iload_n k_102_7 rfl ?_
    refine r_iconst k_102_8 ci_0 ?_
    refine r_iconst k_102_9 ci_5 ?_
    refine r_calls3 m_102 k_102_10 cl_7_78 m_13 (by decide) rfl rfl (Nat.le_of_ble_eq_true rfl) (Nat.le_of_ble_eq_true rfl) ?_
    refine s_13 ?_
    rw [show (nI 0).toInt = 0 by decide +kernel, show (nI 5).toInt = 5 by decide +kernel]
    refine r_if_ne k_102_13 rfl (fun c_13 => ?_) (fun c_13 => ?_)
    · have c_13 := hm_if1 c_13
      obtain ⟨hk, hkb, rfl, -, hkc⟩ := hm_nIof2 c_4.1 (N := 400) (by omega)
      obtain ⟨xk, xkb, rfl, -, xkc⟩ := hm_nIof2 c_13.1 (N := 6) (by omega)
      refine r_aload_n k_102_20 rfl ?_
      refine r_get m_102 k_102_21 fl_7_26 rfl rfl ?_
      refine r_iload_n k_102_24 rfl ?_
      refine r_iload_n k_102_25 rfl ?_
      refine r_callv3 m_102 k_102_26 cl_7_99 m_18 (by decide) rfl rfl (Nat.le_of_ble_eq_true rfl) (Nat.le_of_ble_eq_true rfl) rfl rfl ?_
      refine s_18 xkb hkb ?_
      exact hm_T.ret m_102 k_102_29 rfl (by unfold oc_taken at hQ; rw [if_pos c_4, if_pos c_13, hkc, xkc] at hQ; exact hQ)
    · have c_13 := hm_if0 (Decidable.of_not_not c_13)
      refine r_sipush k_102_16 cs_m1002 ?_
      exact hm_T.ret m_102 k_102_19 rfl (by unfold oc_taken at hQ; rw [if_pos c_4, if_neg c_13] at hQ; exact hQ)
def oc_count (k : hm_M) (np : Nat) (x : Int32) : Int32 := if x.toInt = 0 then k 9 0 else if x.toInt = 1 then k 2 0 else if x.toInt = 2 then k 31 0 else if x.toInt = 3 then k 17 0 else if x.toInt = 4 then k 7 0 else if x.toInt = 5 then k 18 0 else if x.toInt = 6 then hm_sg (k 20) np else if x.toInt = 7 then k 32 0 else if x.toInt = 8 then k 0 0 else if x.toInt = 9 then k 0 1 else if x.toInt = 10 then k 0 2 else -1002
set_option maxRecDepth 20000 in
theorem s_103 {d n s : Nat} {k : hm_M} {ad : hm_AD} {g : Nat → Nat × Nat} {w : hm_W} {nc np : Nat} {h : Nat → Option va_E} {Q : Option Value → hm_H → Prop} (X : hm_D k ad g nc np n h) {x : Int32} (hQ : Q (some (.int (oc_count k np x))) (hm_hC k ad w h n s)) : hm_T (d + 4) 103 0 [.ref 4, .int x] [] (hm_hC k ad w h n s) Q := by
  refine r_iload_n k_103_0 rfl ?_
  by_cases c_1 : x.toInt < 0 ∨ 10 < x.toInt
  · refine r_tableOut k_103_1 c_1 rfl ?_
    refine r_sipush k_103_133 cs_m1002 ?_
    exact hm_T.ret m_103 k_103_136 rfl (by unfold oc_count at hQ; rw [if_neg (show ¬ x.toInt = 0 by omega), if_neg (show ¬ x.toInt = 1 by omega), if_neg (show ¬ x.toInt = 2 by omega), if_neg (show ¬ x.toInt = 3 by omega), if_neg (show ¬ x.toInt = 4 by omega), if_neg (show ¬ x.toInt = 5 by omega), if_neg (show ¬ x.toInt = 6 by omega), if_neg (show ¬ x.toInt = 7 by omega), if_neg (show ¬ x.toInt = 8 by omega), if_neg (show ¬ x.toInt = 9 by omega), if_neg (show ¬ x.toInt = 10 by omega)] at hQ; exact hQ)
  · have hs_1 : x.toInt = 0 ∨ x.toInt = 1 ∨ x.toInt = 2 ∨ x.toInt = 3 ∨ x.toInt = 4 ∨ x.toInt = 5 ∨ x.toInt = 6 ∨ x.toInt = 7 ∨ x.toInt = 8 ∨ x.toInt = 9 ∨ x.toInt = 10 := by omega
    rcases hs_1 with hs_1 | hs_1 | hs_1 | hs_1 | hs_1 | hs_1 | hs_1 | hs_1 | hs_1 | hs_1 | hs_1
    · refine r_tableIn k_103_1 c_1 (by rw [hs_1]; rfl) rfl ?_
      refine r_aload_n k_103_60 rfl ?_
      refine r_get m_103 k_103_61 fl_7_58 rfl rfl ?_
      refine r_callv1 m_103 k_103_64 cl_7_124 m_41 (by decide) rfl rfl (Nat.le_of_ble_eq_true rfl) (Nat.le_of_ble_eq_true rfl) rfl rfl ?_
      refine s_41c X ?_
      exact hm_T.ret m_103 k_103_67 rfl (by unfold oc_count at hQ; rw [if_pos hs_1, X.nc] at hQ; exact hQ)
    · refine r_tableIn k_103_1 c_1 (by rw [hs_1]; rfl) rfl ?_
      refine r_aload_n k_103_68 rfl ?_
      refine r_get m_103 k_103_69 fl_7_19 rfl rfl ?_
      refine r_get m_103 k_103_72 fl_7_195 rfl rfl ?_
      exact hm_T.ret m_103 k_103_75 rfl (by unfold oc_count at hQ; rw [if_neg (show ¬ x.toInt = 0 by omega), if_pos hs_1] at hQ; exact hQ)
    · refine r_tableIn k_103_1 c_1 (by rw [hs_1]; rfl) rfl ?_
      refine r_aload_n k_103_76 rfl ?_
      refine r_get m_103 k_103_77 fl_7_62 rfl rfl ?_
      exact hm_T.ret m_103 k_103_80 rfl (by unfold oc_count at hQ; rw [if_neg (show ¬ x.toInt = 0 by omega), if_neg (show ¬ x.toInt = 1 by omega), if_pos hs_1] at hQ; exact hQ)
    · refine r_tableIn k_103_1 c_1 (by rw [hs_1]; rfl) rfl ?_
      refine r_aload_n k_103_81 rfl ?_
      refine r_get m_103 k_103_82 fl_7_66 rfl rfl ?_
      exact hm_T.ret m_103 k_103_85 rfl (by unfold oc_count at hQ; rw [if_neg (show ¬ x.toInt = 0 by omega), if_neg (show ¬ x.toInt = 1 by omega), if_neg (show ¬ x.toInt = 2 by omega), if_pos hs_1] at hQ; exact hQ)
    · refine r_tableIn k_103_1 c_1 (by rw [hs_1]; rfl) rfl ?_
      refine r_aload_n k_103_86 rfl ?_
      refine r_get m_103 k_103_87 fl_7_33 rfl rfl ?_
      refine r_get m_103 k_103_90 fl_7_198 rfl rfl ?_
      exact hm_T.ret m_103 k_103_93 rfl (by unfold oc_count at hQ; rw [if_neg (show ¬ x.toInt = 0 by omega), if_neg (show ¬ x.toInt = 1 by omega), if_neg (show ¬ x.toInt = 2 by omega), if_neg (show ¬ x.toInt = 3 by omega), if_pos hs_1] at hQ; exact hQ)
    · refine r_tableIn k_103_1 c_1 (by rw [hs_1]; rfl) rfl ?_
      refine r_aload_n k_103_94 rfl ?_
      refine r_get m_103 k_103_95 fl_7_69 rfl rfl ?_
      refine r_callv1 m_103 k_103_98 cl_7_124 m_41 (by decide) rfl rfl (Nat.le_of_ble_eq_true rfl) (Nat.le_of_ble_eq_true rfl) rfl rfl ?_
      refine s_41q X ?_
      exact hm_T.ret m_103 k_103_101 rfl (by unfold oc_count at hQ; rw [if_neg (show ¬ x.toInt = 0 by omega), if_neg (show ¬ x.toInt = 1 by omega), if_neg (show ¬ x.toInt = 2 by omega), if_neg (show ¬ x.toInt = 3 by omega), if_neg (show ¬ x.toInt = 4 by omega), if_pos hs_1, X.np] at hQ; exact hQ)
    · refine r_tableIn k_103_1 c_1 (by rw [hs_1]; rfl) rfl ?_
      refine r_aload_n k_103_102 rfl ?_
      refine r_callv1 m_103 k_103_103 cl_7_201 m_104 (by decide) rfl rfl (Nat.le_of_ble_eq_true rfl) (Nat.le_of_ble_eq_true rfl) rfl rfl ?_
      refine s_104 X ?_
      exact hm_T.ret m_103 k_103_106 rfl (by unfold oc_count at hQ; rw [if_neg (show ¬ x.toInt = 0 by omega), if_neg (show ¬ x.toInt = 1 by omega), if_neg (show ¬ x.toInt = 2 by omega), if_neg (show ¬ x.toInt = 3 by omega), if_neg (show ¬ x.toInt = 4 by omega), if_neg (show ¬ x.toInt = 5 by omega), if_pos hs_1] at hQ; exact hQ)
    · refine r_tableIn k_103_1 c_1 (by rw [hs_1]; rfl) rfl ?_
      refine r_aload_n k_103_107 rfl ?_
      refine r_get m_103 k_103_108 fl_7_75 rfl rfl ?_
      exact hm_T.ret m_103 k_103_111 rfl (by unfold oc_count at hQ; rw [if_neg (show ¬ x.toInt = 0 by omega), if_neg (show ¬ x.toInt = 1 by omega), if_neg (show ¬ x.toInt = 2 by omega), if_neg (show ¬ x.toInt = 3 by omega), if_neg (show ¬ x.toInt = 4 by omega), if_neg (show ¬ x.toInt = 5 by omega), if_neg (show ¬ x.toInt = 6 by omega), if_pos hs_1] at hQ; exact hQ)
    · refine r_tableIn k_103_1 c_1 (by rw [hs_1]; rfl) rfl ?_
      refine r_aload_n k_103_112 rfl ?_
      refine r_get m_103 k_103_113 fl_7_7 rfl rfl ?_
      refine r_iconst k_103_116 ci_0 ?_
      refine r_ialdn (k := 0) k_103_117 rfl (Or.inl rfl) rfl (by decide) (by decide) ?_
      exact hm_T.ret m_103 k_103_118 rfl (by unfold oc_count at hQ; rw [if_neg (show ¬ x.toInt = 0 by omega), if_neg (show ¬ x.toInt = 1 by omega), if_neg (show ¬ x.toInt = 2 by omega), if_neg (show ¬ x.toInt = 3 by omega), if_neg (show ¬ x.toInt = 4 by omega), if_neg (show ¬ x.toInt = 5 by omega), if_neg (show ¬ x.toInt = 6 by omega), if_neg (show ¬ x.toInt = 7 by omega), if_pos hs_1] at hQ; exact hQ)
    · refine r_tableIn k_103_1 c_1 (by rw [hs_1]; rfl) rfl ?_
      refine r_aload_n k_103_119 rfl ?_
      refine r_get m_103 k_103_120 fl_7_7 rfl rfl ?_
      refine r_iconst k_103_123 ci_1 ?_
      refine r_ialdn (k := 1) k_103_124 rfl (Or.inl rfl) rfl (by decide) (by decide) ?_
      exact hm_T.ret m_103 k_103_125 rfl (by unfold oc_count at hQ; rw [if_neg (show ¬ x.toInt = 0 by omega), if_neg (show ¬ x.toInt = 1 by omega), if_neg (show ¬ x.toInt = 2 by omega), if_neg (show ¬ x.toInt = 3 by omega), if_neg (show ¬ x.toInt = 4 by omega), if_neg (show ¬ x.toInt = 5 by omega), if_neg (show ¬ x.toInt = 6 by omega), if_neg (show ¬ x.toInt = 7 by omega), if_neg (show ¬ x.toInt = 8 by omega), if_pos hs_1] at hQ; exact hQ)
    · refine r_tableIn k_103_1 c_1 (by rw [hs_1]; rfl) rfl ?_
      refine r_aload_n k_103_126 rfl ?_
      refine r_get m_103 k_103_127 fl_7_7 rfl rfl ?_
      refine r_iconst k_103_130 ci_2 ?_
      refine r_ialdn (k := 2) k_103_131 rfl (Or.inl rfl) rfl (by decide) (by decide) ?_
      exact hm_T.ret m_103 k_103_132 rfl (by unfold oc_count at hQ; rw [if_neg (show ¬ x.toInt = 0 by omega), if_neg (show ¬ x.toInt = 1 by omega), if_neg (show ¬ x.toInt = 2 by omega), if_neg (show ¬ x.toInt = 3 by omega), if_neg (show ¬ x.toInt = 4 by omega), if_neg (show ¬ x.toInt = 5 by omega), if_neg (show ¬ x.toInt = 6 by omega), if_neg (show ¬ x.toInt = 7 by omega), if_neg (show ¬ x.toInt = 8 by omega), if_neg (show ¬ x.toInt = 9 by omega), if_pos hs_1] at hQ; exact hQ)
set_option maxRecDepth 20000 in
theorem s_107_bad {d n s : Nat} {k : hm_M} {ad : hm_AD} {g : Nat → Nat × Nat} {w : hm_W} {nc np : Nat} {h : Nat → Option va_E} {Q : Option Value → hm_H → Prop} (X : hm_D k ad g nc np n h) {pl v : Int32} (hb : ¬ (0 ≤ pl.toInt ∧ pl.toInt < np)) (hQ : Q (some (.int (-1001))) (hm_hC k ad w h n s)) : hm_T (d + 4) 107 0 [.ref 4, .int pl, .int v, .retAddr 0] [] (hm_hC k ad w h n s) Q := by
  refine r_aload_n k_107_0 rfl ?_
  refine r_iload_n k_107_1 rfl ?_
  refine r_callv2 m_107 k_107_2 cl_7_266 m_108 (by decide) rfl rfl (Nat.le_of_ble_eq_true rfl) (Nat.le_of_ble_eq_true rfl) rfl rfl ?_
  refine s_108_bad X hb ?_
  refine r_astore_nN k_107_5 rfl ?_
  refine r_aload_nN k_107_6 rfl ?_
  refine r_ifnonnullN k_107_7 ?_
  refine r_sipush k_107_10 cs_m1001 ?_
  exact hm_T.ret m_107 k_107_13 rfl hQ
set_option maxRecDepth 20000 in
theorem s_116_bad {d n s : Nat} {k : hm_M} {ad : hm_AD} {g : Nat → Nat × Nat} {w : hm_W} {nc np : Nat} {h : Nat → Option va_E} {Q : Option Value → hm_H → Prop} (X : hm_D k ad g nc np n h) {pl v : Int32} (hb : ¬ (0 ≤ pl.toInt ∧ pl.toInt < np)) (hQ : Q (some (.int (-1001))) (hm_hC k ad w h n s)) : hm_T (d + 4) 116 0 [.ref 4, .int pl, .int v, .retAddr 0] [] (hm_hC k ad w h n s) Q := by
  refine r_aload_n k_116_0 rfl ?_
  refine r_iload_n k_116_1 rfl ?_
  refine r_callv2 m_116 k_116_2 cl_7_266 m_108 (by decide) rfl rfl (Nat.le_of_ble_eq_true rfl) (Nat.le_of_ble_eq_true rfl) rfl rfl ?_
  refine s_108_bad X hb ?_
  refine r_astore_nN k_116_5 rfl ?_
  refine r_aload_nN k_116_6 rfl ?_
  refine r_ifnonnullN k_116_7 ?_
  refine r_sipush k_116_10 cs_m1001 ?_
  exact hm_T.ret m_116 k_116_13 rfl hQ
def oc_planned (k : hm_M) (q : Nat) (x : Int32) : Int32 := if x.toInt = 0 then k 19 q else if x.toInt = 1 then k 20 q else if x.toInt = 2 then k 21 q else if x.toInt = 3 then k 22 q else -1002
set_option maxRecDepth 20000 in
theorem s_116 {d n s : Nat} {k : hm_M} {ad : hm_AD} {g : Nat → Nat × Nat} {w : hm_W} {nc np : Nat} {h : Nat → Option va_E} {Q : Option Value → hm_H → Prop} (X : hm_D k ad g nc np n h) {q : Nat} (hq : q < np) {x : Int32} (hQ : Q (some (.int (oc_planned k q x))) (hm_hC k ad w h n s)) : hm_T (d + 4) 116 0 [.ref 4, .int (nI q), .int x, .retAddr 0] [] (hm_hC k ad w h n s) Q := by
  refine r_aload_n k_116_0 rfl ?_
  refine r_iload_n k_116_1 rfl ?_
  refine r_callv2 m_116 k_116_2 cl_7_266 m_108 (by decide) rfl rfl (Nat.le_of_ble_eq_true rfl) (Nat.le_of_ble_eq_true rfl) rfl rfl ?_
  refine s_108 X hq ?_
  refine r_astore_n k_116_5 rfl ?_
  refine r_aload_n k_116_6 rfl ?_
  refine r_ifnonnull k_116_7 rfl ?_
  refine r_iload_n k_116_14 rfl ?_
  by_cases c_15 : x.toInt < 0 ∨ 3 < x.toInt
  · refine r_tableOut k_116_15 c_15 rfl ?_
    refine r_sipush k_116_64 cs_m1002 ?_
    exact hm_T.ret m_116 k_116_67 rfl (by unfold oc_planned at hQ; rw [if_neg (show ¬ x.toInt = 0 by omega), if_neg (show ¬ x.toInt = 1 by omega), if_neg (show ¬ x.toInt = 2 by omega), if_neg (show ¬ x.toInt = 3 by omega)] at hQ; exact hQ)
  · have hs_15 : x.toInt = 0 ∨ x.toInt = 1 ∨ x.toInt = 2 ∨ x.toInt = 3 := by omega
    rcases hs_15 with hs_15 | hs_15 | hs_15 | hs_15
    · refine r_tableIn k_116_15 c_15 (by rw [hs_15]; rfl) rfl ?_
      refine r_aload_n k_116_44 rfl ?_
      refine r_get m_116 k_116_45 fl_7_293 (rD_4 X hq) rfl ?_
      exact hm_T.ret m_116 k_116_48 rfl (by unfold oc_planned at hQ; rw [if_pos hs_15] at hQ; exact hQ)
    · refine r_tableIn k_116_15 c_15 (by rw [hs_15]; rfl) rfl ?_
      refine r_aload_n k_116_49 rfl ?_
      refine r_get m_116 k_116_50 fl_7_270 (rD_4 X hq) rfl ?_
      exact hm_T.ret m_116 k_116_53 rfl (by unfold oc_planned at hQ; rw [if_neg (show ¬ x.toInt = 0 by omega), if_pos hs_15] at hQ; exact hQ)
    · refine r_tableIn k_116_15 c_15 (by rw [hs_15]; rfl) rfl ?_
      refine r_aload_n k_116_54 rfl ?_
      refine r_get m_116 k_116_55 fl_7_277 (rD_4 X hq) rfl ?_
      exact hm_T.ret m_116 k_116_58 rfl (by unfold oc_planned at hQ; rw [if_neg (show ¬ x.toInt = 0 by omega), if_neg (show ¬ x.toInt = 1 by omega), if_pos hs_15] at hQ; exact hQ)
    · refine r_tableIn k_116_15 c_15 (by rw [hs_15]; rfl) rfl ?_
      refine r_aload_n k_116_59 rfl ?_
      refine r_get m_116 k_116_60 fl_7_296 (rD_4 X hq) rfl ?_
      exact hm_T.ret m_116 k_116_63 rfl (by unfold oc_planned at hQ; rw [if_neg (show ¬ x.toInt = 0 by omega), if_neg (show ¬ x.toInt = 1 by omega), if_neg (show ¬ x.toInt = 2 by omega), if_pos hs_15] at hQ; exact hQ)
set_option maxRecDepth 20000 in
theorem s_107_out {d n s : Nat} {k : hm_M} {ad : hm_AD} {g : Nat → Nat × Nat} {w : hm_W} {nc np : Nat} {h : Nat → Option va_E} {Q : Option Value → hm_H → Prop} (X : hm_D k ad g nc np n h) {q : Nat} (hq : q < np) {v : Int32} (hv : ¬ (1 ≤ v.toInt ∧ v.toInt ≤ 1000000)) (hQ : Q (some (.int (-1002))) (hm_hC k ad w h n s)) : hm_T (d + 4) 107 0 [.ref 4, .int (nI q), .int v, .retAddr 0] [] (hm_hC k ad w h n s) Q := by
  refine r_aload_n k_107_0 rfl ?_
  refine r_iload_n k_107_1 rfl ?_
  refine r_callv2 m_107 k_107_2 cl_7_266 m_108 (by decide) rfl rfl (Nat.le_of_ble_eq_true rfl) (Nat.le_of_ble_eq_true rfl) rfl rfl ?_
  refine s_108 X hq ?_
  refine r_astore_n k_107_5 rfl ?_
  refine r_aload_n k_107_6 rfl ?_
  refine r_ifnonnull k_107_7 rfl ?_
  refine r_iload_n k_107_14 rfl ?_
  refine r_iconst k_107_15 ci_1 ?_
  refine r_ldc_w m_107 k_107_16 il_7_260 ?_
  refine r_calls3 m_107 k_107_19 cl_7_78 m_13 (by decide) rfl rfl (Nat.le_of_ble_eq_true rfl) (Nat.le_of_ble_eq_true rfl) ?_
  refine s_13 ?_
  rw [show (nI 1).toInt = 1 by decide +kernel, show (1000000 : Int32).toInt = 1000000 by decide +kernel, if_neg hv]
  refine r_if_ne k_107_22 rfl (fun z => absurd z (fun z => z rfl)) (fun c_22 => ?_)
  refine r_sipush k_107_25 cs_m1002 ?_
  exact hm_T.ret m_107 k_107_28 rfl hQ
set_option maxRecDepth 20000 in
theorem s_107 {d n s : Nat} {k : hm_M} {ad : hm_AD} {g : Nat → Nat × Nat} {w : hm_W} {nc np : Nat} {h : Nat → Option va_E} {Q : Option Value → hm_H → Prop} (X : hm_D k ad g nc np n h) {q : Nat} (hq : q < np) {v : Int32} (hv : (1 ≤ v.toInt ∧ v.toInt ≤ 1000000)) (hQ0 : ¬ k 20 q + v ≤ 100000000 → Q (some (.int (-1003))) (hm_hC k ad w h n s)) (hQ : k 20 q + v ≤ 100000000 → ∀ h2, hm_D (hm_uM k 20 (upd (k 20) q (k 20 q + v))) ad g nc np n h2 → hm_lo h h2 → Q (some (.int (k 20 q + v))) (hm_hC (hm_uM k 20 (upd (k 20) q (k 20 q + v))) ad w h2 n s)) : hm_T (d + 4) 107 0 [.ref 4, .int (nI q), .int v, .retAddr 0] [] (hm_hC k ad w h n s) Q := by
  refine r_aload_n k_107_0 rfl ?_
  refine r_iload_n k_107_1 rfl ?_
  refine r_callv2 m_107 k_107_2 cl_7_266 m_108 (by decide) rfl rfl (Nat.le_of_ble_eq_true rfl) (Nat.le_of_ble_eq_true rfl) rfl rfl ?_
  refine s_108 X hq ?_
  refine r_astore_n k_107_5 rfl ?_
  refine r_aload_n k_107_6 rfl ?_
  refine r_ifnonnull k_107_7 rfl ?_
  refine r_iload_n k_107_14 rfl ?_
  refine r_iconst k_107_15 ci_1 ?_
  refine r_ldc_w m_107 k_107_16 il_7_260 ?_
  refine r_calls3 m_107 k_107_19 cl_7_78 m_13 (by decide) rfl rfl (Nat.le_of_ble_eq_true rfl) (Nat.le_of_ble_eq_true rfl) ?_
  refine s_13 ?_
  rw [show (nI 1).toInt = 1 by decide +kernel, show (1000000 : Int32).toInt = 1000000 by decide +kernel, if_pos hv]
  refine r_if_ne k_107_22 rfl (fun c_22 => ?_) (fun z => absurd (show ¬ (1 : Int32) = 0 by decide) z)
  refine r_aload_n k_107_29 rfl ?_
  refine r_get m_107 k_107_30 fl_7_270 (rD_4 X hq) rfl ?_
  refine r_iload_n k_107_33 rfl ?_
  refine r_iadd k_107_34 ?_
  refine r_ldc_w m_107 k_107_35 il_7_273 ?_
  refine r_icmp_le k_107_38 rfl (fun c_38 => ?_) (fun c_38 => ?_)
  · refine r_aload_n k_107_45 rfl ?_
    refine r_dup k_107_46 rfl ?_
    refine r_get m_107 k_107_47 fl_7_270 (rD_4 X hq) rfl ?_
    refine r_iload_n k_107_50 rfl ?_
    refine r_iadd k_107_51 ?_
    obtain ⟨h2, e2, X2, hl⟩ := wD_20 X (w := w) (s := s) hq (k 20 q + v)
    refine r_put m_107 k_107_52 fl_7_270 (rD_4 X hq) (Nat.le_of_ble_eq_true rfl) rfl rfl e2 ?_
    refine r_aload_n k_107_55 rfl ?_
    refine r_get m_107 k_107_56 fl_7_270 (rD_4 X2 hq) rfl ?_
    rw [show hm_uM k 20 (upd (k 20) q (k 20 q + v)) 20 q = k 20 q + v from if_pos rfl]
    exact hm_T.ret m_107 k_107_59 rfl (hQ c_38 h2 X2 hl)
  · refine r_sipush k_107_41 cs_m1003 ?_
    exact hm_T.ret m_107 k_107_44 rfl (hQ0 c_38)
