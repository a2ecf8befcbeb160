set_option maxRecDepth 20000 in
theorem l_99 {d n s : Nat} {k : hm_M} {ad : hm_AD} {w : hm_W} {h : Nat → Option va_E} {Q : Option Value → hm_H → Prop} {c0 : Nat} {hour : Int32} : ∀ (j i : Nat) (a : Int32), i + j = 3 → Q (some (.int (hm_ch (hm_opn k hour) j i a))) (hm_hC k ad w h n s) → hm_T (d + 2) 99 68 [.ref 4, .int (nI c0), .int hour, .int a, .int (nI i)] [] (hm_hC k ad w h n s) Q := by
  intro j
  induction j with
  | zero =>
    intro i a hi hQ
    refine r_iload k_99_68 rfl ?_
    refine r_iconst k_99_70 ci_3 ?_
    refine r_icmp_ge k_99_71 rfl (fun c_71 => ?_) (fun z => absurd (nI_le (show 3 ≤ i by omega) (by omega)) z)
    refine r_iconst k_99_100 ci_m1 ?_
    exact hm_T.ret m_99 k_99_101 rfl hQ
  | succ j ih =>
    intro i a hi hQ
    refine r_iload k_99_68 rfl ?_
    refine r_iconst k_99_70 ci_3 ?_
    refine r_icmp_ge k_99_71 rfl (fun z => absurd z (nI_ge (show i < 3 by omega) (by omega))) (fun c_71 => ?_)
    refine r_aload_n k_99_74 rfl ?_
    refine r_iload k_99_75 rfl ?_
    refine r_iload_n k_99_77 rfl ?_
    refine r_callv3 m_99 k_99_78 cl_7_106 m_20 (by decide) rfl rfl (Nat.le_of_ble_eq_true rfl) (Nat.le_of_ble_eq_true rfl) rfl rfl ?_
    refine s_20 (j := i) (by omega) ?_
    refine r_if_eq k_99_81 rfl (fun c_81 => ?_) (fun c_81 => ?_)
    · have c_81 := hm_bi0 c_81
      refine r_iincn k_99_94 rfl (nI_inc i) rfl ?_
      refine r_goto k_99_97 rfl ?_
      refine ih (i + 1) _ (by omega) ?_
      rw [show hm_ch (hm_opn k hour) (j + 1) i a = hm_ch (hm_opn k hour) j (i + 1) a from if_neg (by rw [c_81]; decide)] at hQ
      exact hQ
    · have c_81 := hm_bi1 c_81
      refine r_iload_n k_99_84 rfl ?_
      refine r_if_ne k_99_85 rfl (fun c_85 => ?_) (fun c_85 => ?_)
      · refine r_iinc k_99_91 rfl rfl ?_
        refine r_iincn k_99_94 rfl (nI_inc i) rfl ?_
        refine r_goto k_99_97 rfl ?_
        refine ih (i + 1) _ (by omega) ?_
        rw [show hm_ch (hm_opn k hour) (j + 1) i a = hm_ch (hm_opn k hour) j (i + 1) (a + Int32.ofInt (-1)) by show (if _ then (if _ then _ else _) else _) = _; rw [if_pos c_81, if_neg c_85]] at hQ
        exact hQ
      · have c_85 := Decidable.of_not_not c_85
        refine r_iload k_99_88 rfl ?_
        exact hm_T.ret m_99 k_99_90 rfl (by rw [show hm_ch (hm_opn k hour) (j + 1) i a = nI i by show (if _ then (if _ then _ else _) else _) = _; rw [if_pos c_81, if_pos c_85]] at hQ; exact hQ)
set_option maxRecDepth 20000 in
theorem l_99b {d n s : Nat} {k : hm_M} {ad : hm_AD} {g : Nat → Nat × Nat} {w : hm_W} {nc np : Nat} {h : Nat → Option va_E} {Q : Option Value → hm_H → Prop} (X : hm_D k ad g nc np n h) {c : Nat} (hc : c < nc) {hour : Int32} (hK : hm_T (d + 3) 99 65 [.ref 4, .int (nI c), .int hour, .int (nI (hm_cnt (fun i => decide (k (100 + 2 * i) 1 = hour)) c)), .int (nI c)] [] (hm_hC k ad w h n s) Q) : ∀ (j i : Nat), i + j = c → hm_T (d + 3) 99 12 [.ref 4, .int (nI c), .int hour, .int (nI (hm_cnt (fun i => decide (k (100 + 2 * i) 1 = hour)) i)), .int (nI i)] [] (hm_hC k ad w h n s) Q := by
  intro j
  induction j with
  | zero =>
    intro i hi
    refine r_iload k_99_12 rfl ?_
    refine r_iload_n k_99_14 rfl ?_
    refine r_icmp_ge k_99_15 rfl (fun c_15 => ?_) (fun z => absurd (nI_le (show c ≤ i by omega) (by have := X.nc16; omega)) z)
    rw [show i = c by omega]
    exact hK
  | succ j ih =>
    intro i hi
    refine r_iload k_99_12 rfl ?_
    refine r_iload_n k_99_14 rfl ?_
    refine r_icmp_ge k_99_15 rfl (fun z => absurd z (nI_ge (show i < c by omega) (by have := X.nc16; omega))) (fun c_15 => ?_)
    refine r_iload k_99_18 rfl ?_
    refine r_aload_n k_99_20 rfl ?_
    refine r_get m_99 k_99_21 fl_7_58 rfl rfl ?_
    refine r_callv1 m_99 k_99_24 cl_7_124 m_41 (by decide) rfl rfl (Nat.le_of_ble_eq_true rfl) (Nat.le_of_ble_eq_true rfl) rfl rfl ?_
    refine s_41c X ?_
    refine r_icmp_ge k_99_27 rfl (fun z => absurd z (nI_ge (show i < nc by omega) (by have := X.nc16; omega))) (fun c_27 => ?_)
    refine r_iload_n k_99_30 rfl ?_
    refine r_aload_n k_99_31 rfl ?_
    refine r_get m_99 k_99_32 fl_7_58 rfl rfl ?_
    refine r_iload k_99_35 rfl ?_
    refine r_callv2 m_99 k_99_37 cl_7_128 m_42 (by decide) rfl rfl (Nat.le_of_ble_eq_true rfl) (Nat.le_of_ble_eq_true rfl) rfl rfl ?_
    refine s_42c X (c := i) (by omega) ?_
    refine r_cast m_99 k_99_40 nl_7_132 (rD_1 X (show i < nc by omega)) ?_
    refine r_get m_99 k_99_43 fl_7_183 (rD_1 X (show i < nc by omega)) rfl ?_
    refine r_iconst k_99_46 ci_1 ?_
    refine r_ialdn (k := 1) k_99_47 (rD_3 X (show i < nc by omega)) (Or.inl rfl) rfl (by decide) (by decide) ?_
    refine r_iload_n k_99_48 rfl ?_
    refine r_icmp_ne k_99_49 rfl (fun c_49 => ?_) (fun c_49 => ?_)
    · refine r_iconst k_99_56 ci_0 ?_
      refine r_iadd k_99_57 ?_
      refine r_istore_n k_99_58 rfl ?_
      refine r_iincn k_99_59 rfl (nI_inc i) rfl ?_
      refine r_goto k_99_62 rfl ?_
      have e := ih (i + 1) (by omega)
      rw [hm_cnt_n (P := (fun i => decide (k (100 + 2 * i) 1 = hour))) (decide_eq_false c_49)] at e
      exact e
    · have c_49 := Decidable.of_not_not c_49
      refine r_iconst k_99_52 ci_1 ?_
      refine r_goto k_99_53 rfl ?_
      refine r_iadd k_99_57 ?_
      refine r_istore_n k_99_58 rfl ?_
      refine r_iincn k_99_59 rfl (nI_inc i) rfl ?_
      refine r_goto k_99_62 rfl ?_
      have e := ih (i + 1) (by omega)
      rw [hm_cnt_y (P := (fun i => decide (k (100 + 2 * i) 1 = hour))) (decide_eq_true c_49)] at e
      exact e
set_option maxRecDepth 20000 in
theorem s_99_no {d n s : Nat} {k : hm_M} {ad : hm_AD} {w : hm_W} {h : Nat → Option va_E} {Q : Option Value → hm_H → Prop} {c : Nat} (hQ : Q (some (.int (-1))) (hm_hC k ad w h n s)) : hm_T (d + 3) 99 0 [.ref 4, .int (nI c), .int (-1), .retAddr 0, .retAddr 0] [] (hm_hC k ad w h n s) Q := by
  refine r_iload_n k_99_0 rfl ?_
  refine r_iconst k_99_1 ci_m1 ?_
  refine r_icmp_ne k_99_2 rfl (fun z => absurd z (fun z => z rfl)) (fun c_2 => ?_)
  refine r_iconst k_99_5 ci_m1 ?_
  exact hm_T.ret m_99 k_99_6 rfl hQ
set_option maxRecDepth 20000 in
theorem s_99 {d n s : Nat} {k : hm_M} {ad : hm_AD} {g : Nat → Nat × Nat} {w : hm_W} {nc np : Nat} {h : Nat → Option va_E} {Q : Option Value → hm_H → Prop} (X : hm_D k ad g nc np n h) {c : Nat} (hc : c < nc) {hour : Int32} (hh : ¬ hour = -1) (hQ : Q (some (.int (hm_ch (hm_opn k hour) 3 0 (nI (hm_cnt (fun i => decide (k (100 + 2 * i) 1 = hour)) c))))) (hm_hC k ad w h n s)) : hm_T (d + 3) 99 0 [.ref 4, .int (nI c), .int hour, .retAddr 0, .retAddr 0] [] (hm_hC k ad w h n s) Q := by
  refine r_iload_n k_99_0 rfl ?_
  refine r_iconst k_99_1 ci_m1 ?_
  refine r_icmp_ne k_99_2 rfl (fun c_2 => ?_) (fun z => absurd hh z)
  refine r_iconst k_99_7 ci_0 ?_
  refine r_istore_n k_99_8 rfl ?_
  refine r_iconst k_99_9 ci_0 ?_
  refine r_istore k_99_10 rfl ?_
  refine l_99b X hc ?_ c 0 (by omega)
  refine r_iconst k_99_65 ci_0 ?_
  refine r_istore k_99_66 rfl ?_
  exact l_99 3 0 _ (by omega) hQ
def hc_pl (k : hm_M) (c hh : Nat) : Nat → Bool
  | 0 => hm_all (fun i => decide (k 43 i < k 0 2)) ((hm_ren (k (100 + 2 * c) 2) (k (100 + 2 * c) 3)).toNatClampNeg - hh) hh
  | 1 => decide (k 41 hh < nI (hm_cnt (hm_opn k (nI hh)) 3))
  | 2 => decide (k 42 hh < k 0 1)
  | _ => true
set_option maxRecDepth 20000 in
theorem s_81_0 {d n s : Nat} {k : hm_M} {ad : hm_AD} {g : Nat → Nat × Nat} {w : hm_W} {nc np : Nat} {h : Nat → Option va_E} {Q : Option Value → hm_H → Prop} (X : hm_D k ad g nc np n h) {c hh : Nat} (hc : c < nc) (hh4 : hh < 400) (ho : hm_hok k c) (hQ : Q (some (.int (hm_bi (hc_pl k c hh 0)))) (hm_hC k ad w h n s)) : hm_T (d + 3) 81 0 [.ref 4, .ref (ad 1 c), .int (nI 0), .int (nI hh)] [] (hm_hC k ad w h n s) Q := by
  obtain ⟨e, he, hee⟩ := hm_ren_ok ho
  rw [show hc_pl k c hh 0 = hm_all (fun i => decide (k 43 i < k 0 2)) (e - hh) hh by unfold hc_pl; rw [hee, nI_clamp (by omega)]; rfl] at hQ
  have hs : (nI 0).toInt = 0 := by decide +kernel
  refine r_iload_n k_81_0 rfl ?_
  refine r_tableIn k_81_1 (by rw [hs]; decide) (by rw [hs]; rfl) rfl ?_
  refine r_aload_n k_81_28 rfl ?_
  refine r_get m_81 k_81_29 fl_7_26 rfl rfl ?_
  refine r_iload_n k_81_32 rfl ?_
  refine r_aload_n k_81_33 rfl ?_
  refine r_callv1 m_81 k_81_34 cl_7_219 m_56 (by decide) rfl rfl (Nat.le_of_ble_eq_true rfl) (Nat.le_of_ble_eq_true rfl) (rD_1 X hc) rfl ?_
  refine s_56 X hc ?_
  rw [hee]
  refine r_aload_n k_81_37 rfl ?_
  refine r_get m_81 k_81_38 fl_7_7 rfl rfl ?_
  refine r_iconst k_81_41 ci_2 ?_
  refine r_ialdn (k := 2) k_81_42 rfl (Or.inl rfl) rfl (by decide) (by decide) ?_
  refine r_callv4 m_81 k_81_43 cl_7_222 m_82 (by decide) rfl rfl (Nat.le_of_ble_eq_true rfl) (Nat.le_of_ble_eq_true rfl) rfl rfl ?_
  refine s_82 he hh4 ?_
  exact r_retz m_81 k_81_46 rfl hm_bi01 hQ
set_option maxRecDepth 20000 in
theorem s_81_1 {d n s : Nat} {k : hm_M} {ad : hm_AD} {g : Nat → Nat × Nat} {w : hm_W} {nc np : Nat} {h : Nat → Option va_E} {Q : Option Value → hm_H → Prop} (X : hm_D k ad g nc np n h) {c hh : Nat} (hc : c < nc) (hh4 : hh < 400) (ho : hm_hok k c) (hQ : Q (some (.int (hm_bi (hc_pl k c hh 1)))) (hm_hC k ad w h n s)) : hm_T (d + 3) 81 0 [.ref 4, .ref (ad 1 c), .int (nI 1), .int (nI hh)] [] (hm_hC k ad w h n s) Q := by
  have hs : (nI 1).toInt = 1 := by decide +kernel
  refine r_iload_n k_81_0 rfl ?_
  refine r_tableIn k_81_1 (by rw [hs]; decide) (by rw [hs]; rfl) rfl ?_
  refine r_aload_n k_81_47 rfl ?_
  refine r_get m_81 k_81_48 fl_7_26 rfl rfl ?_
  refine r_iload_n k_81_51 rfl ?_
  refine r_iconst k_81_52 ci_1 ?_
  refine r_callv3 m_81 k_81_53 cl_7_99 m_18 (by decide) rfl rfl (Nat.le_of_ble_eq_true rfl) (Nat.le_of_ble_eq_true rfl) rfl rfl ?_
  refine s_18 (r := 1) (by decide) hh4 ?_
  refine r_aload_n k_81_56 rfl ?_
  refine r_iload_n k_81_57 rfl ?_
  refine r_callv2 m_81 k_81_58 cl_7_103 m_19 (by decide) rfl rfl (Nat.le_of_ble_eq_true rfl) (Nat.le_of_ble_eq_true rfl) rfl rfl ?_
  refine s_19 ?_
  refine r_icmp_ge k_81_61 rfl (fun c_61 => ?_) (fun c_61 => ?_)
  · refine r_iconst k_81_68 ci_0 ?_
    exact hm_T.ret m_81 k_81_69 rfl (by rw [show hc_pl k c hh 1 = false from decide_eq_false (Int32.not_lt.mpr c_61)] at hQ; exact hQ)
  · refine r_iconst k_81_64 ci_1 ?_
    refine r_goto k_81_65 rfl ?_
    exact hm_T.ret m_81 k_81_69 rfl (by rw [show hc_pl k c hh 1 = true from decide_eq_true (Int32.not_le.mp c_61)] at hQ; exact hQ)
set_option maxRecDepth 20000 in
theorem s_81_2 {d n s : Nat} {k : hm_M} {ad : hm_AD} {g : Nat → Nat × Nat} {w : hm_W} {nc np : Nat} {h : Nat → Option va_E} {Q : Option Value → hm_H → Prop} (X : hm_D k ad g nc np n h) {c hh : Nat} (hc : c < nc) (hh4 : hh < 400) (ho : hm_hok k c) (hQ : Q (some (.int (hm_bi (hc_pl k c hh 2)))) (hm_hC k ad w h n s)) : hm_T (d + 3) 81 0 [.ref 4, .ref (ad 1 c), .int (nI 2), .int (nI hh)] [] (hm_hC k ad w h n s) Q := by
  have hs : (nI 2).toInt = 2 := by decide +kernel
  refine r_iload_n k_81_0 rfl ?_
  refine r_tableIn k_81_1 (by rw [hs]; decide) (by rw [hs]; rfl) rfl ?_
  refine r_aload_n k_81_70 rfl ?_
  refine r_get m_81 k_81_71 fl_7_26 rfl rfl ?_
  refine r_iload_n k_81_74 rfl ?_
  refine r_iconst k_81_75 ci_2 ?_
  refine r_callv3 m_81 k_81_76 cl_7_99 m_18 (by decide) rfl rfl (Nat.le_of_ble_eq_true rfl) (Nat.le_of_ble_eq_true rfl) rfl rfl ?_
  refine s_18 (r := 2) (by decide) hh4 ?_
  refine r_aload_n k_81_79 rfl ?_
  refine r_get m_81 k_81_80 fl_7_7 rfl rfl ?_
  refine r_iconst k_81_83 ci_1 ?_
  refine r_ialdn (k := 1) k_81_84 rfl (Or.inl rfl) rfl (by decide) (by decide) ?_
  refine r_icmp_ge k_81_85 rfl (fun c_85 => ?_) (fun c_85 => ?_)
  · refine r_iconst k_81_92 ci_0 ?_
    exact hm_T.ret m_81 k_81_93 rfl (by rw [show hc_pl k c hh 2 = false from decide_eq_false (Int32.not_lt.mpr c_85)] at hQ; exact hQ)
  · refine r_iconst k_81_88 ci_1 ?_
    refine r_goto k_81_89 rfl ?_
    exact hm_T.ret m_81 k_81_93 rfl (by rw [show hc_pl k c hh 2 = true from decide_eq_true (Int32.not_le.mp c_85)] at hQ; exact hQ)
set_option maxRecDepth 20000 in
theorem s_81_3 {d n s : Nat} {k : hm_M} {ad : hm_AD} {g : Nat → Nat × Nat} {w : hm_W} {nc np : Nat} {h : Nat → Option va_E} {Q : Option Value → hm_H → Prop} (X : hm_D k ad g nc np n h) {c hh : Nat} (hc : c < nc) (hh4 : hh < 400) (ho : hm_hok k c) (hQ : Q (some (.int (hm_bi (hc_pl k c hh 3)))) (hm_hC k ad w h n s)) : hm_T (d + 3) 81 0 [.ref 4, .ref (ad 1 c), .int (nI 3), .int (nI hh)] [] (hm_hC k ad w h n s) Q := by
  have hs : (nI 3).toInt = 3 := by decide +kernel
  refine r_iload_n k_81_0 rfl ?_
  refine r_tableOut k_81_1 (by rw [hs]; decide) rfl ?_
  refine r_iconst k_81_94 ci_1 ?_
  exact hm_T.ret m_81 k_81_95 rfl hQ
set_option maxRecDepth 20000 in
theorem s_81 {d n s : Nat} {k : hm_M} {ad : hm_AD} {g : Nat → Nat × Nat} {w : hm_W} {nc np : Nat} {h : Nat → Option va_E} {Q : Option Value → hm_H → Prop} (X : hm_D k ad g nc np n h) {c t hh : Nat} (hc : c < nc) (ht : t < 4) (hh4 : hh < 400) (ho : hm_hok k c) (hQ : Q (some (.int (hm_bi (hc_pl k c hh t)))) (hm_hC k ad w h n s)) : hm_T (d + 3) 81 0 [.ref 4, .ref (ad 1 c), .int (nI t), .int (nI hh)] [] (hm_hC k ad w h n s) Q := by
  have h4 : t = 0 ∨ t = 1 ∨ t = 2 ∨ t = 3 := by omega
  rcases h4 with rfl | rfl | rfl | rfl
  · exact s_81_0 X hc hh4 ho hQ
  · exact s_81_1 X hc hh4 ho hQ
  · exact s_81_2 X hc hh4 ho hQ
  · exact s_81_3 X hc hh4 ho hQ
