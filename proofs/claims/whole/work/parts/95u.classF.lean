def hc_add (k : hm_M) (r hh : Nat) (x : Int32) : hm_M := hm_uM k r (upd (k r) hh (k r hh + x))
theorem hm_D.add {k : hm_M} {ad : hm_AD} {g : Nat → Nat × Nat} {nc np n : Nat} {h : Nat → Option va_E} (X : hm_D k ad g nc np n h) {r : Nat} (hr : 40 ≤ r) (hr2 : r ≤ 45) (hh : Nat) (x : Int32) : hm_D (hc_add k r hh x) ad g nc np n h := X.st (fun j hj => if_neg (by omega)) ⟨if_neg (by omega), if_neg (by omega), if_neg (by omega), if_neg (by omega), if_neg (by omega), if_neg (by omega), if_neg (by omega), if_neg (by omega), if_neg (by omega), if_neg (by omega), if_neg (by omega), if_neg (by omega), if_neg (by omega)⟩
/-- an hour is -1 or one of the 400 -/
def hm_hv (x : Int32) : Prop := x = -1 ∨ ∃ hh, hh < 400 ∧ x = nI hh
def hm_hok (k : hm_M) (c : Nat) : Prop := ∀ t, t < 4 → hm_hv (k (100 + 2 * c) t)
theorem hm_nIm (a : Nat) (h : a < 2 ^ 31) : ¬ nI a = -1 := fun z => by
  have e := congrArg Int32.toInt z
  rw [nI_toInt h] at e
  have e2 : (-1 : Int32).toInt = -1 := by decide +kernel
  omega
theorem hm_re1_ok {e a : Int32} (he : ∃ x, x ≤ 400 ∧ e = nI x) (ha : hm_hv a) : ∃ x, x ≤ 400 ∧ hm_re1 e a = nI x := by
  unfold hm_re1
  by_cases h1 : a = -1
  · rw [if_pos h1]; exact he
  · rw [if_neg h1]
    rcases ha with h2 | ⟨hh, h2, h3⟩
    · exact absurd h2 h1
    · by_cases h4 : a < e
      · rw [if_pos h4]; exact ⟨hh, by omega, h3⟩
      · rw [if_neg h4]; exact he
theorem hm_ren_ok {k : hm_M} {c : Nat} (ho : hm_hok k c) : ∃ x, x ≤ 400 ∧ hm_ren (k (100 + 2 * c) 2) (k (100 + 2 * c) 3) = nI x := hm_re1_ok (hm_re1_ok ⟨400, Nat.le_refl _, rfl⟩ (ho 2 (by decide))) (ho 3 (by decide))
def hc_es (k : hm_M) (c t hh : Nat) (x : Int32) : hm_M := match t with
  | 1 => hc_add (hc_add (hc_add (hc_add k 40 hh x) 45 hh x) 41 hh x) 44 hh (x * k 12 c)
  | 2 => hc_add (hc_add (hc_add k 40 hh x) 45 hh x) 42 hh x
  | 3 => hc_add (hc_add (hc_add k 40 hh x) 45 hh x) 44 hh (x * k 12 c)
  | _ => hc_add (hc_add k 40 hh x) 45 hh x
set_option maxRecDepth 20000 in
theorem s_58_0 {d n s : Nat} {k : hm_M} {ad : hm_AD} {g : Nat → Nat × Nat} {w : hm_W} {nc np : Nat} {h : Nat → Option va_E} {Q : Option Value → hm_H → Prop} (X : hm_D k ad g nc np n h) {c hh : Nat} {x : Int32} (hc : c < nc) (hh4 : hh < 400) (ht : k (100 + 2 * c) 0 = nI hh) (hQ : Q none (hm_hC (hc_add (hc_add k 40 hh x) 45 hh x) ad w h n s)) : hm_T (d + 1) 58 0 [.ref 17, .ref (ad 1 c), .int (nI 0), .int x, .retAddr 0] [] (hm_hC k ad w h n s) Q := by
  refine r_aload_n k_58_0 rfl ?_
  refine r_get m_58 k_58_1 fl_4_22 (rD_1 X hc) rfl ?_
  refine r_iload_n k_58_4 rfl ?_
  refine r_ialdn (k := 0) k_58_5 (rD_3 X hc) (Or.inl rfl) rfl (by decide) (by decide) ?_
  refine r_istore k_58_6 rfl ?_
  refine r_iload k_58_8 rfl ?_
  refine r_iconst k_58_10 ci_m1 ?_
  refine r_icmp_ne k_58_11 rfl (fun c_11 => ?_) (fun z => absurd (by rw [ht]; exact hm_nIm hh (by omega)) z)
  refine r_aload_n k_58_15 rfl ?_
  refine r_get m_58 k_58_16 fl_4_11 rfl rfl ?_
  refine r_iconst k_58_19 ci_0 ?_
  refine r_aaldn (k := 0) k_58_20 rfl (by decide) rfl (by decide) (by decide) rfl ?_
  refine r_iload k_58_21 rfl ?_
  refine r_dup2 k_58_23 rfl rfl ?_
  refine r_ialdn (k := hh) k_58_24 rfl (Or.inl rfl) ht hh4 (by decide) ?_
  refine r_iload_n k_58_25 rfl ?_
  refine r_iadd k_58_26 ?_
  refine r_iastn (k := hh) k_58_27 rfl rfl ht hh4 (by decide) (wC_40 _) ?_
  refine r_aload_n k_58_28 rfl ?_
  refine r_get m_58 k_58_29 fl_4_11 rfl rfl ?_
  refine r_iconst k_58_32 ci_5 ?_
  refine r_aaldn (k := 5) k_58_33 rfl (by decide) rfl (by decide) (by decide) rfl ?_
  refine r_iload k_58_34 rfl ?_
  refine r_dup2 k_58_36 rfl rfl ?_
  refine r_ialdn (k := hh) k_58_37 rfl (Or.inl rfl) ht hh4 (by decide) ?_
  refine r_iload_n k_58_38 rfl ?_
  refine r_iadd k_58_39 ?_
  refine r_iastn (k := hh) k_58_40 rfl rfl ht hh4 (by decide) (wC_45 _) ?_
  refine r_iload_n k_58_41 rfl ?_
  refine r_iconst k_58_42 ci_1 ?_
  refine r_icmp_ne k_58_43 rfl (fun c_43 => ?_) (fun z => absurd (by decide) z)
  refine r_iload_n k_58_59 rfl ?_
  refine r_iconst k_58_60 ci_2 ?_
  refine r_icmp_ne k_58_61 rfl (fun c_61 => ?_) (fun z => absurd (by decide) z)
  refine r_iload_n k_58_77 rfl ?_
  refine r_calls1 m_58 k_58_78 cl_4_28 m_59 (by decide) rfl rfl (Nat.le_of_ble_eq_true rfl) (Nat.le_of_ble_eq_true rfl) ?_
  refine s_59 ?_
  refine r_if_eq k_58_81 rfl (fun c_81 => ?_) (fun z => absurd (by decide) z)
  exact hm_T.ret m_58 k_58_102 rfl hQ
set_option maxRecDepth 20000 in
theorem s_58_1 {d n s : Nat} {k : hm_M} {ad : hm_AD} {g : Nat → Nat × Nat} {w : hm_W} {nc np : Nat} {h : Nat → Option va_E} {Q : Option Value → hm_H → Prop} (X : hm_D k ad g nc np n h) {c hh : Nat} {x : Int32} (hc : c < nc) (hh4 : hh < 400) (ht : k (100 + 2 * c) 1 = nI hh) (hQ : Q none (hm_hC (hc_add (hc_add (hc_add (hc_add k 40 hh x) 45 hh x) 41 hh x) 44 hh (x * k 12 c)) ad w h n s)) : hm_T (d + 1) 58 0 [.ref 17, .ref (ad 1 c), .int (nI 1), .int x, .retAddr 0] [] (hm_hC k ad w h n s) Q := by
  refine r_aload_n k_58_0 rfl ?_
  refine r_get m_58 k_58_1 fl_4_22 (rD_1 X hc) rfl ?_
  refine r_iload_n k_58_4 rfl ?_
  refine r_ialdn (k := 1) k_58_5 (rD_3 X hc) (Or.inl rfl) rfl (by decide) (by decide) ?_
  refine r_istore k_58_6 rfl ?_
  refine r_iload k_58_8 rfl ?_
  refine r_iconst k_58_10 ci_m1 ?_
  refine r_icmp_ne k_58_11 rfl (fun c_11 => ?_) (fun z => absurd (by rw [ht]; exact hm_nIm hh (by omega)) z)
  refine r_aload_n k_58_15 rfl ?_
  refine r_get m_58 k_58_16 fl_4_11 rfl rfl ?_
  refine r_iconst k_58_19 ci_0 ?_
  refine r_aaldn (k := 0) k_58_20 rfl (by decide) rfl (by decide) (by decide) rfl ?_
  refine r_iload k_58_21 rfl ?_
  refine r_dup2 k_58_23 rfl rfl ?_
  refine r_ialdn (k := hh) k_58_24 rfl (Or.inl rfl) ht hh4 (by decide) ?_
  refine r_iload_n k_58_25 rfl ?_
  refine r_iadd k_58_26 ?_
  refine r_iastn (k := hh) k_58_27 rfl rfl ht hh4 (by decide) (wC_40 _) ?_
  refine r_aload_n k_58_28 rfl ?_
  refine r_get m_58 k_58_29 fl_4_11 rfl rfl ?_
  refine r_iconst k_58_32 ci_5 ?_
  refine r_aaldn (k := 5) k_58_33 rfl (by decide) rfl (by decide) (by decide) rfl ?_
  refine r_iload k_58_34 rfl ?_
  refine r_dup2 k_58_36 rfl rfl ?_
  refine r_ialdn (k := hh) k_58_37 rfl (Or.inl rfl) ht hh4 (by decide) ?_
  refine r_iload_n k_58_38 rfl ?_
  refine r_iadd k_58_39 ?_
  refine r_iastn (k := hh) k_58_40 rfl rfl ht hh4 (by decide) (wC_45 _) ?_
  refine r_iload_n k_58_41 rfl ?_
  refine r_iconst k_58_42 ci_1 ?_
  refine r_icmp_ne k_58_43 rfl (fun z => absurd z (fun z => z (by decide))) (fun c_43 => ?_)
  refine r_aload_n k_58_46 rfl ?_
  refine r_get m_58 k_58_47 fl_4_11 rfl rfl ?_
  refine r_iconst k_58_50 ci_1 ?_
  refine r_aaldn (k := 1) k_58_51 rfl (by decide) rfl (by decide) (by decide) rfl ?_
  refine r_iload k_58_52 rfl ?_
  refine r_dup2 k_58_54 rfl rfl ?_
  refine r_ialdn (k := hh) k_58_55 rfl (Or.inl rfl) ht hh4 (by decide) ?_
  refine r_iload_n k_58_56 rfl ?_
  refine r_iadd k_58_57 ?_
  refine r_iastn (k := hh) k_58_58 rfl rfl ht hh4 (by decide) (wC_41 _) ?_
  refine r_iload_n k_58_59 rfl ?_
  refine r_iconst k_58_60 ci_2 ?_
  refine r_icmp_ne k_58_61 rfl (fun c_61 => ?_) (fun z => absurd (by decide) z)
  refine r_iload_n k_58_77 rfl ?_
  refine r_calls1 m_58 k_58_78 cl_4_28 m_59 (by decide) rfl rfl (Nat.le_of_ble_eq_true rfl) (Nat.le_of_ble_eq_true rfl) ?_
  refine s_59 ?_
  refine r_if_eq k_58_81 rfl (fun z => absurd z (by decide)) (fun c_81 => ?_)
  refine r_aload_n k_58_84 rfl ?_
  refine r_get m_58 k_58_85 fl_4_11 rfl rfl ?_
  refine r_iconst k_58_88 ci_4 ?_
  refine r_aaldn (k := 4) k_58_89 rfl (by decide) rfl (by decide) (by decide) rfl ?_
  refine r_iload k_58_90 rfl ?_
  refine r_dup2 k_58_92 rfl rfl ?_
  refine r_ialdn (k := hh) k_58_93 rfl (Or.inl rfl) ht hh4 (by decide) ?_
  refine r_iload_n k_58_94 rfl ?_
  refine r_aload_n k_58_95 rfl ?_
  refine r_get m_58 k_58_96 fl_4_32 (rD_1 (k := hc_add (hc_add (hc_add k 40 hh x) 45 hh x) 41 hh x) (((X.add (r := 40) (by decide) (by decide) hh x).add (r := 45) (by decide) (by decide) hh x).add (r := 41) (by decide) (by decide) hh x) hc) rfl ?_
  refine r_imul k_58_99 ?_
  refine r_iadd k_58_100 ?_
  refine r_iastn (k := hh) k_58_101 rfl rfl ht hh4 (by decide) (wC_44 _) ?_
  exact hm_T.ret m_58 k_58_102 rfl hQ
set_option maxRecDepth 20000 in
theorem s_58_2 {d n s : Nat} {k : hm_M} {ad : hm_AD} {g : Nat → Nat × Nat} {w : hm_W} {nc np : Nat} {h : Nat → Option va_E} {Q : Option Value → hm_H → Prop} (X : hm_D k ad g nc np n h) {c hh : Nat} {x : Int32} (hc : c < nc) (hh4 : hh < 400) (ht : k (100 + 2 * c) 2 = nI hh) (hQ : Q none (hm_hC (hc_add (hc_add (hc_add k 40 hh x) 45 hh x) 42 hh x) ad w h n s)) : hm_T (d + 1) 58 0 [.ref 17, .ref (ad 1 c), .int (nI 2), .int x, .retAddr 0] [] (hm_hC k ad w h n s) Q := by
  refine r_aload_n k_58_0 rfl ?_
  refine r_get m_58 k_58_1 fl_4_22 (rD_1 X hc) rfl ?_
  refine r_iload_n k_58_4 rfl ?_
  refine r_ialdn (k := 2) k_58_5 (rD_3 X hc) (Or.inl rfl) rfl (by decide) (by decide) ?_
  refine r_istore k_58_6 rfl ?_
  refine r_iload k_58_8 rfl ?_
  refine r_iconst k_58_10 ci_m1 ?_
  refine r_icmp_ne k_58_11 rfl (fun c_11 => ?_) (fun z => absurd (by rw [ht]; exact hm_nIm hh (by omega)) z)
  refine r_aload_n k_58_15 rfl ?_
  refine r_get m_58 k_58_16 fl_4_11 rfl rfl ?_
  refine r_iconst k_58_19 ci_0 ?_
  refine r_aaldn (k := 0) k_58_20 rfl (by decide) rfl (by decide) (by decide) rfl ?_
  refine r_iload k_58_21 rfl ?_
  refine r_dup2 k_58_23 rfl rfl ?_
  refine r_ialdn (k := hh) k_58_24 rfl (Or.inl rfl) ht hh4 (by decide) ?_
  refine r_iload_n k_58_25 rfl ?_
  refine r_iadd k_58_26 ?_
  refine r_iastn (k := hh) k_58_27 rfl rfl ht hh4 (by decide) (wC_40 _) ?_
  refine r_aload_n k_58_28 rfl ?_
  refine r_get m_58 k_58_29 fl_4_11 rfl rfl ?_
  refine r_iconst k_58_32 ci_5 ?_
  refine r_aaldn (k := 5) k_58_33 rfl (by decide) rfl (by decide) (by decide) rfl ?_
  refine r_iload k_58_34 rfl ?_
  refine r_dup2 k_58_36 rfl rfl ?_
  refine r_ialdn (k := hh) k_58_37 rfl (Or.inl rfl) ht hh4 (by decide) ?_
  refine r_iload_n k_58_38 rfl ?_
  refine r_iadd k_58_39 ?_
  refine r_iastn (k := hh) k_58_40 rfl rfl ht hh4 (by decide) (wC_45 _) ?_
  refine r_iload_n k_58_41 rfl ?_
  refine r_iconst k_58_42 ci_1 ?_
  refine r_icmp_ne k_58_43 rfl (fun c_43 => ?_) (fun z => absurd (by decide) z)
  refine r_iload_n k_58_59 rfl ?_
  refine r_iconst k_58_60 ci_2 ?_
  refine r_icmp_ne k_58_61 rfl (fun z => absurd z (fun z => z (by decide))) (fun c_61 => ?_)
  refine r_aload_n k_58_64 rfl ?_
  refine r_get m_58 k_58_65 fl_4_11 rfl rfl ?_
  refine r_iconst k_58_68 ci_2 ?_
  refine r_aaldn (k := 2) k_58_69 rfl (by decide) rfl (by decide) (by decide) rfl ?_
  refine r_iload k_58_70 rfl ?_
  refine r_dup2 k_58_72 rfl rfl ?_
  refine r_ialdn (k := hh) k_58_73 rfl (Or.inl rfl) ht hh4 (by decide) ?_
  refine r_iload_n k_58_74 rfl ?_
  refine r_iadd k_58_75 ?_
  refine r_iastn (k := hh) k_58_76 rfl rfl ht hh4 (by decide) (wC_42 _) ?_
  refine r_iload_n k_58_77 rfl ?_
  refine r_calls1 m_58 k_58_78 cl_4_28 m_59 (by decide) rfl rfl (Nat.le_of_ble_eq_true rfl) (Nat.le_of_ble_eq_true rfl) ?_
  refine s_59 ?_
  refine r_if_eq k_58_81 rfl (fun c_81 => ?_) (fun z => absurd (by decide) z)
  exact hm_T.ret m_58 k_58_102 rfl hQ
set_option maxRecDepth 20000 in
theorem s_58_3 {d n s : Nat} {k : hm_M} {ad : hm_AD} {g : Nat → Nat × Nat} {w : hm_W} {nc np : Nat} {h : Nat → Option va_E} {Q : Option Value → hm_H → Prop} (X : hm_D k ad g nc np n h) {c hh : Nat} {x : Int32} (hc : c < nc) (hh4 : hh < 400) (ht : k (100 + 2 * c) 3 = nI hh) (hQ : Q none (hm_hC (hc_add (hc_add (hc_add k 40 hh x) 45 hh x) 44 hh (x * k 12 c)) ad w h n s)) : hm_T (d + 1) 58 0 [.ref 17, .ref (ad 1 c), .int (nI 3), .int x, .retAddr 0] [] (hm_hC k ad w h n s) Q := by
  refine r_aload_n k_58_0 rfl ?_
  refine r_get m_58 k_58_1 fl_4_22 (rD_1 X hc) rfl ?_
  refine r_iload_n k_58_4 rfl ?_
  refine r_ialdn (k := 3) k_58_5 (rD_3 X hc) (Or.inl rfl) rfl (by decide) (by decide) ?_
  refine r_istore k_58_6 rfl ?_
  refine r_iload k_58_8 rfl ?_
  refine r_iconst k_58_10 ci_m1 ?_
  refine r_icmp_ne k_58_11 rfl (fun c_11 => ?_) (fun z => absurd (by rw [ht]; exact hm_nIm hh (by omega)) z)
  refine r_aload_n k_58_15 rfl ?_
  refine r_get m_58 k_58_16 fl_4_11 rfl rfl ?_
  refine r_iconst k_58_19 ci_0 ?_
  refine r_aaldn (k := 0) k_58_20 rfl (by decide) rfl (by decide) (by decide) rfl ?_
  refine r_iload k_58_21 rfl ?_
  refine r_dup2 k_58_23 rfl rfl ?_
  refine r_ialdn (k := hh) k_58_24 rfl (Or.inl rfl) ht hh4 (by decide) ?_
  refine r_iload_n k_58_25 rfl ?_
  refine r_iadd k_58_26 ?_
  refine r_iastn (k := hh) k_58_27 rfl rfl ht hh4 (by decide) (wC_40 _) ?_
  refine r_aload_n k_58_28 rfl ?_
  refine r_get m_58 k_58_29 fl_4_11 rfl rfl ?_
  refine r_iconst k_58_32 ci_5 ?_
  refine r_aaldn (k := 5) k_58_33 rfl (by decide) rfl (by decide) (by decide) rfl ?_
  refine r_iload k_58_34 rfl ?_
  refine r_dup2 k_58_36 rfl rfl ?_
  refine r_ialdn (k := hh) k_58_37 rfl (Or.inl rfl) ht hh4 (by decide) ?_
  refine r_iload_n k_58_38 rfl ?_
  refine r_iadd k_58_39 ?_
  refine r_iastn (k := hh) k_58_40 rfl rfl ht hh4 (by decide) (wC_45 _) ?_
  refine r_iload_n k_58_41 rfl ?_
  refine r_iconst k_58_42 ci_1 ?_
  refine r_icmp_ne k_58_43 rfl (fun c_43 => ?_) (fun z => absurd (by decide) z)
  refine r_iload_n k_58_59 rfl ?_
  refine r_iconst k_58_60 ci_2 ?_
  refine r_icmp_ne k_58_61 rfl (fun c_61 => ?_) (fun z => absurd (by decide) z)
  refine r_iload_n k_58_77 rfl ?_
  refine r_calls1 m_58 k_58_78 cl_4_28 m_59 (by decide) rfl rfl (Nat.le_of_ble_eq_true rfl) (Nat.le_of_ble_eq_true rfl) ?_
  refine s_59 ?_
  refine r_if_eq k_58_81 rfl (fun z => absurd z (by decide)) (fun c_81 => ?_)
  refine r_aload_n k_58_84 rfl ?_
  refine r_get m_58 k_58_85 fl_4_11 rfl rfl ?_
  refine r_iconst k_58_88 ci_4 ?_
  refine r_aaldn (k := 4) k_58_89 rfl (by decide) rfl (by decide) (by decide) rfl ?_
  refine r_iload k_58_90 rfl ?_
  refine r_dup2 k_58_92 rfl rfl ?_
  refine r_ialdn (k := hh) k_58_93 rfl (Or.inl rfl) ht hh4 (by decide) ?_
  refine r_iload_n k_58_94 rfl ?_
  refine r_aload_n k_58_95 rfl ?_
  refine r_get m_58 k_58_96 fl_4_32 (rD_1 (k := (hc_add (hc_add k 40 hh x) 45 hh x)) ((X.add (r := 40) (by decide) (by decide) hh x).add (r := 45) (by decide) (by decide) hh x) hc) rfl ?_
  refine r_imul k_58_99 ?_
  refine r_iadd k_58_100 ?_
  refine r_iastn (k := hh) k_58_101 rfl rfl ht hh4 (by decide) (wC_44 _) ?_
  exact hm_T.ret m_58 k_58_102 rfl hQ
set_option maxRecDepth 20000 in
theorem s_58 {d n s : Nat} {k : hm_M} {ad : hm_AD} {g : Nat → Nat × Nat} {w : hm_W} {nc np : Nat} {h : Nat → Option va_E} {Q : Option Value → hm_H → Prop} (X : hm_D k ad g nc np n h) {c t hh : Nat} {x : Int32} (hc : c < nc) (ht4 : t < 4) (hh4 : hh < 400) (ht : k (100 + 2 * c) t = nI hh) (hQ : Q none (hm_hC (hc_es k c t hh x) ad w h n s)) : hm_T (d + 1) 58 0 [.ref 17, .ref (ad 1 c), .int (nI t), .int x, .retAddr 0] [] (hm_hC k ad w h n s) Q := by
  have h4 : t = 0 ∨ t = 1 ∨ t = 2 ∨ t = 3 := by omega
  rcases h4 with rfl | rfl | rfl | rfl
  · exact s_58_0 X hc hh4 ht hQ
  · exact s_58_1 X hc hh4 ht hQ
  · exact s_58_2 X hc hh4 ht hQ
  · exact s_58_3 X hc hh4 ht hQ
def hc_er (x : Int32) : Nat → Nat → hm_M → hm_M
  | 0, _, k => k
  | j + 1, i, k => hc_er x j (i + 1) (hc_add k 43 i x)
def hc_rm (k : hm_M) (c : Nat) (x : Int32) : hm_M := if k (100 + 2 * c) 0 = -1 then k else hc_er x ((hm_ren (k (100 + 2 * c) 2) (k (100 + 2 * c) 3)).toNatClampNeg - (k (100 + 2 * c) 0).toNatClampNeg) (k (100 + 2 * c) 0).toNatClampNeg k
theorem hc_er_o {x : Int32} {f : Nat} (hf : ¬ f = 43) : ∀ (j i : Nat) (k : hm_M), hc_er x j i k f = k f := by
  intro j
  induction j with
  | zero => intro i k; rfl
  | succ j ih => intro i k; exact (ih (i + 1) _).trans (if_neg hf)
theorem hc_rm_o {k : hm_M} {c : Nat} {x : Int32} {f : Nat} (hf : ¬ f = 43) : hc_rm k c x f = k f := by
  unfold hc_rm
  split
  · rfl
  · exact hc_er_o hf _ _ _
theorem hm_D.rm {k : hm_M} {ad : hm_AD} {g : Nat → Nat × Nat} {nc np n : Nat} {h : Nat → Option va_E} (X : hm_D k ad g nc np n h) (c : Nat) (x : Int32) : hm_D (hc_rm k c x) ad g nc np n h := X.st (fun j hj => hc_rm_o (by omega)) ⟨hc_rm_o (by decide), hc_rm_o (by decide), hc_rm_o (by decide), hc_rm_o (by decide), hc_rm_o (by decide), hc_rm_o (by decide), hc_rm_o (by decide), hc_rm_o (by decide), hc_rm_o (by decide), hc_rm_o (by decide), hc_rm_o (by decide), hc_rm_o (by decide), hc_rm_o (by decide)⟩
theorem hc_es_o {k : hm_M} {c t hh : Nat} {x : Int32} {f : Nat} (hf : f < 40 ∨ 45 < f) : hc_es k c t hh x f = k f := by
  unfold hc_es
  split
  · exact (if_neg (by omega)).trans ((if_neg (by omega)).trans ((if_neg (by omega)).trans (if_neg (by omega))))
  · exact (if_neg (by omega)).trans ((if_neg (by omega)).trans (if_neg (by omega)))
  · exact (if_neg (by omega)).trans ((if_neg (by omega)).trans (if_neg (by omega)))
  · exact (if_neg (by omega)).trans (if_neg (by omega))
theorem hm_D.es {k : hm_M} {ad : hm_AD} {g : Nat → Nat × Nat} {nc np n : Nat} {h : Nat → Option va_E} (X : hm_D k ad g nc np n h) (c t hh : Nat) (x : Int32) : hm_D (hc_es k c t hh x) ad g nc np n h := X.st (fun j hj => hc_es_o (by omega)) ⟨hc_es_o (by decide), hc_es_o (by decide), hc_es_o (by decide), hc_es_o (by decide), hc_es_o (by decide), hc_es_o (by decide), hc_es_o (by decide), hc_es_o (by decide), hc_es_o (by decide), hc_es_o (by decide), hc_es_o (by decide), hc_es_o (by decide), hc_es_o (by decide)⟩
set_option maxRecDepth 20000 in
theorem l_55 {d n s : Nat} {ad : hm_AD} {w : hm_W} {h : Nat → Option va_E} {Q : Option Value → hm_H → Prop} {x : Int32} {e a : Nat} (he : e ≤ 400) : ∀ (j i : Nat) (k : hm_M), i + j = e ∨ (j = 0 ∧ e ≤ i) → i < 2 ^ 30 → Q none (hm_hC (hc_er x j i k) ad w h n s) → hm_T d 55 22 [.ref 17, .ref a, .int x, .int (nI e), .int (nI i)] [] (hm_hC k ad w h n s) Q := by
  intro j
  induction j with
  | zero =>
    intro i k hi hi2 hQ
    refine r_iload k_55_22 rfl ?_
    refine r_iload_n k_55_24 rfl ?_
    refine r_icmp_ge k_55_25 rfl (fun c_25 => ?_) (fun z => absurd (nI_le (show e ≤ i by omega) (by omega)) z)
    exact hm_T.ret m_55 k_55_47 rfl hQ
  | succ j ih =>
    intro i k hi hi2 hQ
    refine r_iload k_55_22 rfl ?_
    refine r_iload_n k_55_24 rfl ?_
    refine r_icmp_ge k_55_25 rfl (fun z => absurd z (nI_ge (show i < e by omega) (by omega))) (fun c_25 => ?_)
    refine r_aload_n k_55_28 rfl ?_
    refine r_get m_55 k_55_29 fl_4_11 rfl rfl ?_
    refine r_iconst k_55_32 ci_3 ?_
    refine r_aaldn (k := 3) k_55_33 rfl (by decide) rfl (by decide) (by decide) rfl ?_
    refine r_iload k_55_34 rfl ?_
    refine r_dup2 k_55_36 rfl rfl ?_
    refine r_ialdn (k := i) k_55_37 rfl (Or.inl rfl) rfl (by omega) (by decide) ?_
    refine r_iload_n k_55_38 rfl ?_
    refine r_iadd k_55_39 ?_
    refine r_iastn (k := i) k_55_40 rfl rfl rfl (by omega) (by decide) (wC_43 _) ?_
    refine r_iincn k_55_41 rfl (nI_inc i) rfl ?_
    refine r_goto k_55_44 rfl ?_
    exact ih (i + 1) _ (by omega) (by omega) hQ
set_option maxRecDepth 20000 in
theorem s_55 {d n s : Nat} {k : hm_M} {ad : hm_AD} {g : Nat → Nat × Nat} {w : hm_W} {nc np : Nat} {h : Nat → Option va_E} {Q : Option Value → hm_H → Prop} (X : hm_D k ad g nc np n h) {c : Nat} {x : Int32} (hc : c < nc) (ho : hm_hok k c) (hQ : Q none (hm_hC (hc_rm k c x) ad w h n s)) : hm_T (d + 2) 55 0 [.ref 17, .ref (ad 1 c), .int x, .retAddr 0, .retAddr 0] [] (hm_hC k ad w h n s) Q := by
  obtain ⟨e, he, hee⟩ := hm_ren_ok ho
  refine r_aload_n k_55_0 rfl ?_
  refine r_iconst k_55_1 ci_0 ?_
  refine r_callv2 m_55 k_55_2 cl_4_36 m_48 (by decide) rfl rfl (Nat.le_of_ble_eq_true rfl) (Nat.le_of_ble_eq_true rfl) (rD_1 X hc) rfl ?_
  refine s_48 X hc (t := 0) (by decide) ?_
  refine r_if_ne k_55_5 rfl (fun c_5 => ?_) (fun c_5 => ?_)
  · have c_5 := hm_bi1 c_5
    have c_5 := of_decide_eq_true c_5
    rcases ho 0 (by decide) with h0 | ⟨hh, hh4, h0⟩
    · exact absurd h0 c_5
    unfold hc_rm at hQ
    rw [if_neg c_5, hee, h0, nI_clamp (by omega), nI_clamp (by omega)] at hQ
    refine r_aload_n k_55_9 rfl ?_
    refine r_callv1 m_55 k_55_10 cl_4_39 m_56 (by decide) rfl rfl (Nat.le_of_ble_eq_true rfl) (Nat.le_of_ble_eq_true rfl) (rD_1 X hc) rfl ?_
    refine s_56 X hc ?_
    rw [hee]
    refine r_istore_n k_55_13 rfl ?_
    refine r_aload_n k_55_14 rfl ?_
    refine r_get m_55 k_55_15 fl_4_22 (rD_1 X hc) rfl ?_
    refine r_iconst k_55_18 ci_0 ?_
    refine r_ialdn (k := 0) k_55_19 (rD_3 X hc) (Or.inl rfl) rfl (by decide) (by decide) ?_
    rw [h0]
    refine r_istore k_55_20 rfl ?_
    exact l_55 he (e - hh) hh k (by omega) (by omega) hQ
  · have c_5 := hm_bi0 (Decidable.of_not_not c_5)
    have c_5 := Decidable.of_not_not (of_decide_eq_false c_5)
    unfold hc_rm at hQ
    rw [if_pos c_5] at hQ
    exact hm_T.ret m_55 k_55_8 rfl hQ
def hc_bk (k : hm_M) (c t hh : Nat) : hm_M := hm_uM (hc_rm (hc_es (hm_uM (hc_rm k c (-1)) (100 + 2 * c) (upd (k (100 + 2 * c)) t (nI hh))) c t hh (nI 1)) c (nI 1)) 31 (fun _ => k 31 0 + nI 1)
def hc_tb (k : hm_M) (c t hh : Nat) : hm_M := hm_uM (hm_uM (hc_rm (hm_uM (hc_es (hc_rm k c (-1)) c t hh (-1)) (100 + 2 * c) (upd (k (100 + 2 * c)) t (-1))) c (nI 1)) 31 (fun _ => k 31 0 - nI 1)) 17 (fun _ => k 17 0 + nI 1)
theorem hm_hok_c {k k2 : hm_M} {c : Nat} (h : k2 (100 + 2 * c) = k (100 + 2 * c)) (ho : hm_hok k c) : hm_hok k2 c := fun t ht => by rw [h]; exact ho t ht
theorem hm_hok_u {k : hm_M} {c t : Nat} {f : Nat → Int32} {x : Int32} (hx : hm_hv x) (hf : f = k (100 + 2 * c)) (ho : hm_hok k c) (k1 : hm_M) : hm_hok (hm_uM k1 (100 + 2 * c) (upd f t x)) c := fun t2 ht => by
  rw [show hm_uM k1 (100 + 2 * c) (upd f t x) (100 + 2 * c) = upd f t x from if_pos rfl]
  by_cases h2 : t2 = t
  · rw [show upd f t x t2 = x from if_pos h2]; exact hx
  · rw [show upd f t x t2 = f t2 from if_neg h2, hf]; exact ho t2 ht
set_option maxRecDepth 20000 in
theorem s_95 {d n s : Nat} {k : hm_M} {ad : hm_AD} {g : Nat → Nat × Nat} {w : hm_W} {nc np : Nat} {h : Nat → Option va_E} {Q : Option Value → hm_H → Prop} (X : hm_D k ad g nc np n h) {c t hh : Nat} (hc : c < nc) (ht : t < 4) (hh4 : hh < 400) (ho : hm_hok k c) (hQ : ∀ h2, hm_D (hc_bk k c t hh) ad g nc np n h2 → hm_lo h h2 → Q (none) (hm_hC (hc_bk k c t hh) ad w h2 n s)) : hm_T (d + 3) 95 0 [.ref 4, .ref (ad 1 c), .int (nI t), .int (nI hh)] [] (hm_hC k ad w h n s) Q := by
  have h16 := X.nc16
  have e1 : (hc_rm k c (-1)) (100 + 2 * c) = k (100 + 2 * c) := hc_rm_o (by omega)
  have X1 := X.rm c (-1)
  obtain ⟨h2, w2, X2, hl⟩ := wD_h X1 (w := w) (s := s) hc (upd (k (100 + 2 * c)) t (nI hh))
  have ho2 : hm_hok (hm_uM (hc_rm k c (-1)) (100 + 2 * c) (upd (k (100 + 2 * c)) t (nI hh))) c := hm_hok_u (Or.inr ⟨hh, hh4, rfl⟩) rfl ho _
  have ht2 : (hm_uM (hc_rm k c (-1)) (100 + 2 * c) (upd (k (100 + 2 * c)) t (nI hh))) (100 + 2 * c) t = nI hh := by
    rw [show (hm_uM (hc_rm k c (-1)) (100 + 2 * c) (upd (k (100 + 2 * c)) t (nI hh))) (100 + 2 * c) = upd (k (100 + 2 * c)) t (nI hh) from if_pos rfl]
    exact if_pos rfl
  have X3 := X2.es c t hh (nI 1)
  have ho3 : hm_hok (hc_es (hm_uM (hc_rm k c (-1)) (100 + 2 * c) (upd (k (100 + 2 * c)) t (nI hh))) c t hh (nI 1)) c := hm_hok_c (hc_es_o (by omega)) ho2
  have X4 := X3.rm c (nI 1)
  have e31 : (hc_rm (hc_es (hm_uM (hc_rm k c (-1)) (100 + 2 * c) (upd (k (100 + 2 * c)) t (nI hh))) c t hh (nI 1)) c (nI 1)) 31 = k 31 := (hc_rm_o (by decide)).trans ((hc_es_o (by decide)).trans ((if_neg (by omega)).trans (hc_rm_o (by decide))))
  have X5 : hm_D (hc_bk k c t hh) ad g nc np n h2 := X4.st (fun j hj => if_neg (by omega)) ⟨rfl, rfl, rfl, rfl, rfl, rfl, rfl, rfl, rfl, rfl, rfl, rfl, rfl⟩
  refine r_aload_n k_95_0 rfl ?_
  refine r_get m_95 k_95_1 fl_7_26 rfl rfl ?_
  refine r_aload_n k_95_4 rfl ?_
  refine r_iconst k_95_5 ci_m1 ?_
  refine r_callv3 m_95 k_95_6 cl_7_250 m_55 (by decide) rfl rfl (Nat.le_of_ble_eq_true rfl) (Nat.le_of_ble_eq_true rfl) rfl rfl ?_
  refine s_55 X hc ho ?_
  refine r_aload_n k_95_9 rfl ?_
  refine r_get m_95 k_95_10 fl_7_183 (rD_1 X1 hc) rfl ?_
  refine r_iload_n k_95_13 rfl ?_
  refine r_iload_n k_95_14 rfl ?_
  refine r_iastn (k := t) k_95_15 (rD_3 X1 hc) rfl rfl ht (by decide) (Eq.trans (by rw [e1]) w2) ?_
  refine r_aload_n k_95_16 rfl ?_
  refine r_get m_95 k_95_17 fl_7_26 rfl rfl ?_
  refine r_aload_n k_95_20 rfl ?_
  refine r_iload_n k_95_21 rfl ?_
  refine r_iconst k_95_22 ci_1 ?_
  refine r_callv4 m_95 k_95_23 cl_7_253 m_58 (by decide) rfl rfl (Nat.le_of_ble_eq_true rfl) (Nat.le_of_ble_eq_true rfl) rfl rfl ?_
  refine s_58 X2 hc ht hh4 ht2 ?_
  refine r_aload_n k_95_26 rfl ?_
  refine r_get m_95 k_95_27 fl_7_26 rfl rfl ?_
  refine r_aload_n k_95_30 rfl ?_
  refine r_iconst k_95_31 ci_1 ?_
  refine r_callv3 m_95 k_95_32 cl_7_250 m_55 (by decide) rfl rfl (Nat.le_of_ble_eq_true rfl) (Nat.le_of_ble_eq_true rfl) rfl rfl ?_
  refine s_55 X3 hc ho3 ?_
  refine r_aload_n k_95_35 rfl ?_
  refine r_dup k_95_36 rfl ?_
  refine r_get m_95 k_95_37 fl_7_62 rfl rfl ?_
  rw [show (hc_rm (hc_es (hm_uM (hc_rm k c (-1)) (100 + 2 * c) (upd (k (100 + 2 * c)) t (nI hh))) c t hh (nI 1)) c (nI 1)) 31 0 = k 31 0 by rw [e31]]
  refine r_iconst k_95_40 ci_1 ?_
  refine r_iadd k_95_41 ?_
  refine r_put m_95 k_95_42 fl_7_62 rfl (Nat.le_of_ble_eq_true rfl) rfl rfl (wC_31 _) ?_
  exact hm_T.ret m_95 k_95_45 rfl (hQ h2 X5 hl)
set_option maxRecDepth 20000 in
theorem s_54 {d n s : Nat} {k : hm_M} {ad : hm_AD} {g : Nat → Nat × Nat} {w : hm_W} {nc np : Nat} {h : Nat → Option va_E} {Q : Option Value → hm_H → Prop} (X : hm_D k ad g nc np n h) {c t hh : Nat} (hc : c < nc) (ht : t < 4) (hh4 : hh < 400) (ho : hm_hok k c) (hth : k (100 + 2 * c) t = nI hh) (hQ : ∀ h2, hm_D (hc_tb k c t hh) ad g nc np n h2 → hm_lo h h2 → Q (none) (hm_hC (hc_tb k c t hh) ad w h2 n s)) : hm_T (d + 3) 54 0 [.ref 4, .ref (ad 1 c), .int (nI t)] [] (hm_hC k ad w h n s) Q := by
  have h16 := X.nc16
  have e1 : (hc_rm k c (-1)) (100 + 2 * c) = k (100 + 2 * c) := hc_rm_o (by omega)
  have X1 := X.rm c (-1)
  have X2 := X1.es c t hh (-1)
  have e2 : (hc_es (hc_rm k c (-1)) c t hh (-1)) (100 + 2 * c) = k (100 + 2 * c) := (hc_es_o (by omega)).trans e1
  obtain ⟨h2, w2, X3, hl⟩ := wD_h X2 (w := w) (s := s) hc (upd (k (100 + 2 * c)) t (-1))
  have ho3 : hm_hok (hm_uM (hc_es (hc_rm k c (-1)) c t hh (-1)) (100 + 2 * c) (upd (k (100 + 2 * c)) t (-1))) c := hm_hok_u (Or.inl rfl) rfl ho _
  have X4 := X3.rm c (nI 1)
  have e31 : (hc_rm (hm_uM (hc_es (hc_rm k c (-1)) c t hh (-1)) (100 + 2 * c) (upd (k (100 + 2 * c)) t (-1))) c (nI 1)) 31 = k 31 := (hc_rm_o (by decide)).trans ((if_neg (by omega)).trans ((hc_es_o (by decide)).trans (hc_rm_o (by decide))))
  have e17 : (hc_rm (hm_uM (hc_es (hc_rm k c (-1)) c t hh (-1)) (100 + 2 * c) (upd (k (100 + 2 * c)) t (-1))) c (nI 1)) 17 = k 17 := (hc_rm_o (by decide)).trans ((if_neg (by omega)).trans ((hc_es_o (by decide)).trans (hc_rm_o (by decide))))
  have X5 : hm_D (hc_tb k c t hh) ad g nc np n h2 := X4.st (fun j hj => (if_neg (by omega)).trans (if_neg (by omega))) ⟨rfl, rfl, rfl, rfl, rfl, rfl, rfl, rfl, rfl, rfl, rfl, rfl, rfl⟩
  refine r_aload_n k_54_0 rfl ?_
  refine r_get m_54 k_54_1 fl_7_26 rfl rfl ?_
  refine r_aload_n k_54_4 rfl ?_
  refine r_iconst k_54_5 ci_m1 ?_
  refine r_callv3 m_54 k_54_6 cl_7_250 m_55 (by decide) rfl rfl (Nat.le_of_ble_eq_true rfl) (Nat.le_of_ble_eq_true rfl) rfl rfl ?_
  refine s_55 X hc ho ?_
  refine r_aload_n k_54_9 rfl ?_
  refine r_get m_54 k_54_10 fl_7_26 rfl rfl ?_
  refine r_aload_n k_54_13 rfl ?_
  refine r_iload_n k_54_14 rfl ?_
  refine r_iconst k_54_15 ci_m1 ?_
  refine r_callv4 m_54 k_54_16 cl_7_253 m_58 (by decide) rfl rfl (Nat.le_of_ble_eq_true rfl) (Nat.le_of_ble_eq_true rfl) rfl rfl ?_
  refine s_58 X1 hc ht hh4 (by rw [e1]; exact hth) ?_
  refine r_aload_n k_54_19 rfl ?_
  refine r_get m_54 k_54_20 fl_7_183 (rD_1 X2 hc) rfl ?_
  refine r_iload_n k_54_23 rfl ?_
  refine r_iconst k_54_24 ci_m1 ?_
  refine r_iastn (k := t) k_54_25 (rD_3 X2 hc) rfl rfl ht (by decide) (Eq.trans (by rw [e2]) w2) ?_
  refine r_aload_n k_54_26 rfl ?_
  refine r_get m_54 k_54_27 fl_7_26 rfl rfl ?_
  refine r_aload_n k_54_30 rfl ?_
  refine r_iconst k_54_31 ci_1 ?_
  refine r_callv3 m_54 k_54_32 cl_7_250 m_55 (by decide) rfl rfl (Nat.le_of_ble_eq_true rfl) (Nat.le_of_ble_eq_true rfl) rfl rfl ?_
  refine s_55 X3 hc ho3 ?_
  refine r_aload_n k_54_35 rfl ?_
  refine r_dup k_54_36 rfl ?_
  refine r_get m_54 k_54_37 fl_7_62 rfl rfl ?_
  rw [show (hc_rm (hm_uM (hc_es (hc_rm k c (-1)) c t hh (-1)) (100 + 2 * c) (upd (k (100 + 2 * c)) t (-1))) c (nI 1)) 31 0 = k 31 0 by rw [e31]]
  refine r_iconst k_54_40 ci_1 ?_
  refine r_isub k_54_41 ?_
  refine r_put m_54 k_54_42 fl_7_62 rfl (Nat.le_of_ble_eq_true rfl) rfl rfl (wC_31 _) ?_
  refine r_aload_n k_54_45 rfl ?_
  refine r_dup k_54_46 rfl ?_
  refine r_get m_54 k_54_47 fl_7_66 rfl rfl ?_
  rw [show hm_uM (hc_rm (hm_uM (hc_es (hc_rm k c (-1)) c t hh (-1)) (100 + 2 * c) (upd (k (100 + 2 * c)) t (-1))) c (nI 1)) 31 (fun _ => k 31 0 - nI 1) 17 0 = k 17 0 by rw [show hm_uM (hc_rm (hm_uM (hc_es (hc_rm k c (-1)) c t hh (-1)) (100 + 2 * c) (upd (k (100 + 2 * c)) t (-1))) c (nI 1)) 31 (fun _ => k 31 0 - nI 1) 17 = (hc_rm (hm_uM (hc_es (hc_rm k c (-1)) c t hh (-1)) (100 + 2 * c) (upd (k (100 + 2 * c)) t (-1))) c (nI 1)) 17 from rfl, e17]]
  refine r_iconst k_54_50 ci_1 ?_
  refine r_iadd k_54_51 ?_
  refine r_put m_54 k_54_52 fl_7_66 rfl (Nat.le_of_ble_eq_true rfl) rfl rfl (wC_17 _) ?_
  exact hm_T.ret m_54 k_54_55 rfl (hQ h2 X5 hl)
def hc_ub (c q : Nat) : Nat → Nat → hm_M → Nat × hm_M
  | 0, a, k => (a, k)
  | r + 1, a, k => if hm_fb (hm_brk k c q) 4 0 = -1 then (a, k) else hc_ub c q r (a + 1) (hc_tb k c (hm_fb (hm_brk k c q) 4 0).toNatClampNeg (k (100 + 2 * c) (hm_fb (hm_brk k c q) 4 0).toNatClampNeg).toNatClampNeg)
theorem hm_fb_lt {P : Nat → Bool} : ∀ (j i : Nat), ¬ hm_fb P j i = -1 → ∃ x, x < i + j ∧ hm_fb P j i = nI x ∧ P x = true := by
  intro j
  induction j with
  | zero => intro i h; exact absurd rfl h
  | succ j ih =>
    intro i h
    by_cases hp : P i = true
    · exact ⟨i, by omega, if_pos hp, hp⟩
    · have e : hm_fb P (j + 1) i = hm_fb P j (i + 1) := if_neg hp
      rw [e] at h ⊢
      obtain ⟨x, h1, h2, h3⟩ := ih (i + 1) h
      exact ⟨x, by omega, h2, h3⟩
theorem hc_tb_H {k : hm_M} {c t hh : Nat} : hc_tb k c t hh (100 + 2 * c) = upd (k (100 + 2 * c)) t (-1) := (if_neg (by omega)).trans ((if_neg (by omega)).trans ((hc_rm_o (by omega)).trans (if_pos rfl)))
theorem hc_tb_ok {k : hm_M} {c t hh : Nat} (ho : hm_hok k c) : hm_hok (hc_tb k c t hh) c := fun t2 ht => by
  rw [hc_tb_H]
  by_cases h2 : t2 = t
  · rw [show upd (k (100 + 2 * c)) t (-1) t2 = -1 from if_pos h2]; exact Or.inl rfl
  · rw [show upd (k (100 + 2 * c)) t (-1) t2 = k (100 + 2 * c) t2 from if_neg h2]; exact ho t2 ht
set_option maxRecDepth 20000 in
theorem l_46 {d n s : Nat} {ad : hm_AD} {g : Nat → Nat × Nat} {w : hm_W} {nc np : Nat} {Q : Option Value → hm_H → Prop} {c q : Nat} (hc : c < nc) (hq : q < 5) : ∀ (j i a : Nat) (k : hm_M) (h : Nat → Option va_E) (va : Value), va.category = 1 → hm_D k ad g nc np n h → hm_hok k c → i + j = 4 → a ≤ i → (∀ h2, hm_D (hc_ub c q j a k).2 ad g nc np n h2 → hm_lo h h2 → Q (some (.int (nI (hc_ub c q j a k).1))) (hm_hC (hc_ub c q j a k).2 ad w h2 n s)) → hm_T (d + 4) 46 15 [.ref 4, .ref (ad 1 c), .ref (hm_lb q), .int (nI a), .int (nI i), va] [] (hm_hC k ad w h n s) Q := by
  intro j
  induction j with
  | zero =>
    intro i a k h va hva X ho hi ha hQ
    refine r_iload k_46_15 rfl ?_
    refine r_iconst k_46_17 ci_4 ?_
    refine r_icmp_ge k_46_18 rfl (fun c_18 => ?_) (fun z => absurd (nI_le (show 4 ≤ i by omega) (by omega)) z)
    refine r_iload_n k_46_53 rfl ?_
    exact hm_T.ret m_46 k_46_54 rfl (hQ h X (hm_lo.rfl2 h))
  | succ j ih =>
    intro i a k h va hva X ho hi ha hQ
    refine r_iload k_46_15 rfl ?_
    refine r_iconst k_46_17 ci_4 ?_
    refine r_icmp_ge k_46_18 rfl (fun z => absurd z (nI_ge (show i < 4 by omega) (by omega))) (fun c_18 => ?_)
    refine r_aload_n k_46_21 rfl ?_
    refine r_aload_n k_46_22 rfl ?_
    refine r_callv2 m_46 k_46_23 cl_7_256 m_47 (by decide) rfl rfl (Nat.le_of_ble_eq_true rfl) (Nat.le_of_ble_eq_true rfl) (rD_1 X hc) rfl ?_
    refine s_47 X hc hq ?_
    refine r_istore k_46_26 rfl ?_
    refine r_iload k_46_28 rfl ?_
    refine r_iconst k_46_30 ci_m1 ?_
    refine r_icmp_ne k_46_31 rfl (fun c_31 => ?_) (fun c_31 => ?_)
    · obtain ⟨x, hx4, hxe, hxb⟩ := hm_fb_lt 4 0 c_31
      have hxn : ¬ k (100 + 2 * c) x = -1 := fun z => by
        unfold hm_brk at hxb
        rw [decide_eq_true z] at hxb
        exact Bool.noConfusion (show false = true from hxb)
      rcases ho x (by omega) with h0 | ⟨hh, hh4, h0⟩
      · exact absurd h0 hxn
      rw [hxe]
      have e : hc_ub c q (j + 1) a k = hc_ub c q j (a + 1) (hc_tb k c x hh) := by
        show (if hm_fb (hm_brk k c q) 4 0 = -1 then _ else _) = _
        rw [if_neg c_31, hxe, nI_clamp (by omega), h0, nI_clamp (by omega)]
      rw [e] at hQ
      refine r_aload_n k_46_37 rfl ?_
      refine r_aload_n k_46_38 rfl ?_
      refine r_iload k_46_39 rfl ?_
      refine r_callv3 m_46 k_46_41 cl_7_179 m_54 (by decide) rfl rfl (Nat.le_of_ble_eq_true rfl) (Nat.le_of_ble_eq_true rfl) rfl rfl ?_
      refine s_54 X hc (t := x) (by omega) hh4 ho h0 (fun h2 X2 hl => ?_)
      refine r_iincn k_46_44 rfl (nI_inc a) rfl ?_
      refine r_iincn k_46_47 rfl (nI_inc i) rfl ?_
      refine r_goto k_46_50 rfl ?_
      exact ih (i + 1) (a + 1) _ h2 _ rfl X2 (hc_tb_ok ho) (by omega) (by omega) (fun h3 X3 hl3 => hQ h3 X3 (hl.tr hl3))
    · have c_31 := Decidable.of_not_not c_31
      refine r_goto k_46_34 rfl ?_
      refine r_iload_n k_46_53 rfl ?_
      exact hm_T.ret m_46 k_46_54 rfl (by have e : hc_ub c q (j + 1) a k = (a, k) := if_pos c_31; rw [e] at hQ; exact hQ h X (hm_lo.rfl2 h))
set_option maxRecDepth 20000 in
theorem s_46 {d n s : Nat} {k : hm_M} {ad : hm_AD} {g : Nat → Nat × Nat} {w : hm_W} {nc np : Nat} {h : Nat → Option va_E} {Q : Option Value → hm_H → Prop} (X : hm_D k ad g nc np n h) {c f : Nat} (hc : c < nc) (hf : f < 4) (hkf : k 10 c = nI f) (ho : hm_hok k c) (hQ : ∀ h2, hm_D (hc_ub c (ad 0 f) 4 0 k).2 ad g nc np n h2 → hm_lo h h2 → Q (some (.int (nI (hc_ub c (ad 0 f) 4 0 k).1))) (hm_hC (hc_ub c (ad 0 f) 4 0 k).2 ad w h2 n s)) : hm_T (d + 4) 46 0 [.ref 4, .ref (ad 1 c), .retAddr 0, .retAddr 0, .retAddr 0, .retAddr 0] [] (hm_hC k ad w h n s) Q := by
  refine r_aload_n k_46_0 rfl ?_
  refine r_get m_46 k_46_1 fl_7_46 rfl rfl ?_
  refine r_aload_n k_46_4 rfl ?_
  refine r_get m_46 k_46_5 fl_7_134 (rD_1 X hc) rfl ?_
  rw [hkf]
  refine r_aaldn (k := f) k_46_8 rfl (by decide) rfl (by omega) (by decide) (by show va_rf (if f < 4 then some _ else none) = _; rw [if_pos hf]; try rfl) ?_
  refine r_astore_n k_46_9 rfl ?_
  refine r_iconst k_46_10 ci_0 ?_
  refine r_istore_n k_46_11 rfl ?_
  refine r_iconst k_46_12 ci_0 ?_
  refine r_istore k_46_13 rfl ?_
  exact l_46 hc (X.p f (by omega)) 4 0 0 k h _ rfl X ho (by omega) (by omega) hQ
