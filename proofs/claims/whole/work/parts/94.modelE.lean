theorem nI_div (a b : Nat) (ha : a < 2 ^ 31) (hb : 0 < b) (hb2 : b < 2 ^ 31) : nI a / nI b = nI (a / b) := by
  apply Int32.toInt_inj.mp
  have hle : a / b ≤ a := Nat.div_le_self a b
  have hmv : Int32.minValue.toInt = -2147483648 := by decide +kernel
  have hne : nI a ≠ Int32.minValue := by
    intro z
    have h2 := congrArg Int32.toInt z
    rw [nI_toInt ha, hmv] at h2
    omega
  rw [Int32.toInt_div_of_ne_left _ _ hne, nI_toInt ha, nI_toInt hb2, nI_toInt (by omega)]
  exact (Int.ofNat_tdiv a b).symm
theorem nI_rem (a b : Nat) (ha : a < 2 ^ 31) (hb : 0 < b) (hb2 : b < 2 ^ 31) : nI a - nI a / nI b * nI b = nI (a % b) := by
  rw [nI_div a b ha hb hb2, nI_mul]
  have h := Nat.div_add_mod a b
  rw [Nat.mul_comm] at h
  rw [show nI a = nI (a / b * b + a % b) by rw [h], ← nI_add, Int32.add_comm, Int32.add_sub_cancel]
theorem hm_congr2 {Q : Option Value → hm_H → Prop} {x y : Option Value} {a b : hm_H} (h1 : x = y) (h2 : b = a) (h : Q x a) : Q y b := by
  subst h1
  subst h2
  exact h
def hm_fil (x b : Nat) : Nat → Nat → hm_M → hm_M
  | 0, _, m => m
  | k + 1, j, m => hm_fil x b k (j + 1) (hm_uM m x (upd (m x) (b + j) (-1)))
set_option maxRecDepth 20000 in
theorem l_145_14 {d n s : Nat} {h : Nat → Option va_E} {Q : Option Value → hm_H → Prop} {f de ne sp : Int32} {c : Nat} (hc : c < 16) : ∀ (k j : Nat) (m : hm_M), j + k = 6 → hm_T d 145 134 [.ref 61, .int f, .int de, .int ne, .int sp, .int (nI c), .int (nI 6)] [] (hm_hM (hm_fil 14 (6 * c) k j m) h n s) Q → hm_T d 145 107 [.ref 61, .int f, .int de, .int ne, .int sp, .int (nI c), .int (nI j)] [] (hm_hM m h n s) Q := by
  intro k
  induction k with
  | zero =>
    intro j m hj hK
    refine r_iload k_145_107 rfl ?_
    refine r_bipush k_145_109 cb_6 ?_
    refine r_icmp_ge k_145_111 rfl (fun c_111 => ?_) (fun z => absurd (nI_le (show 6 ≤ j by omega) (by omega)) z)
    rw [show j = 6 by omega]
    exact hK
  | succ k ih =>
    intro j m hj hK
    refine r_iload k_145_107 rfl ?_
    refine r_bipush k_145_109 cb_6 ?_
    refine r_icmp_ge k_145_111 rfl (fun z => absurd z (nI_ge (show j < 6 by omega) (by omega))) (fun c_111 => ?_)
    refine r_aload_n k_145_114 rfl ?_
    refine r_get m_145 k_145_115 fl_8_44 rfl rfl ?_
    refine r_bipush k_145_118 cb_6 ?_
    refine r_iload k_145_120 rfl ?_
    refine r_imul k_145_122 ?_
    refine r_iload k_145_123 rfl ?_
    refine r_iadd k_145_125 ?_
    refine r_iconst k_145_126 ci_m1 ?_
    refine r_iastn (k := 6 * c + j) k_145_127 rfl rfl (by rw [nI_mul, nI_add]) (by omega) (by decide) (wM_14 _) ?_
    refine r_iincn k_145_128 rfl (nI_inc j) rfl ?_
    refine r_goto k_145_131 rfl ?_
    exact ih (j + 1) _ (by omega) hK
set_option maxRecDepth 20000 in
theorem l_145_15 {d n s : Nat} {h : Nat → Option va_E} {Q : Option Value → hm_H → Prop} {f de ne sp : Int32} {c : Nat} (hc : c < 16) : ∀ (k j : Nat) (m : hm_M), j + k = 4 → hm_T d 145 162 [.ref 61, .int f, .int de, .int ne, .int sp, .int (nI c), .int (nI 4)] [] (hm_hM (hm_fil 15 (4 * c) k j m) h n s) Q → hm_T d 145 137 [.ref 61, .int f, .int de, .int ne, .int sp, .int (nI c), .int (nI j)] [] (hm_hM m h n s) Q := by
  intro k
  induction k with
  | zero =>
    intro j m hj hK
    refine r_iload k_145_137 rfl ?_
    refine r_iconst k_145_139 ci_4 ?_
    refine r_icmp_ge k_145_140 rfl (fun c_140 => ?_) (fun z => absurd (nI_le (show 4 ≤ j by omega) (by omega)) z)
    rw [show j = 4 by omega]
    exact hK
  | succ k ih =>
    intro j m hj hK
    refine r_iload k_145_137 rfl ?_
    refine r_iconst k_145_139 ci_4 ?_
    refine r_icmp_ge k_145_140 rfl (fun z => absurd z (nI_ge (show j < 4 by omega) (by omega))) (fun c_140 => ?_)
    refine r_aload_n k_145_143 rfl ?_
    refine r_get m_145 k_145_144 fl_8_47 rfl rfl ?_
    refine r_iconst k_145_147 ci_4 ?_
    refine r_iload k_145_148 rfl ?_
    refine r_imul k_145_150 ?_
    refine r_iload k_145_151 rfl ?_
    refine r_iadd k_145_153 ?_
    refine r_iconst k_145_154 ci_m1 ?_
    refine r_iastn (k := 4 * c + j) k_145_155 rfl rfl (by rw [nI_mul, nI_add]) (by omega) (by decide) (wM_15 _) ?_
    refine r_iincn k_145_156 rfl (nI_inc j) rfl ?_
    refine r_goto k_145_159 rfl ?_
    exact ih (j + 1) _ (by omega) hK
def hm_cas (m : hm_M) (c : Nat) (f de ne sp : Int32) : hm_M := hm_fil 15 (4 * c) 4 0 (hm_fil 14 (6 * c) 6 0 (hm_uM (hm_uM (hm_uM (hm_uM m 10 (upd (m 10) c f)) 11 (upd (m 11) c de)) 12 (upd (m 12) c ne)) 13 (upd (m 13) c sp)))
def op_casus (m : hm_M) (f de ne sp : Int32) : Int32 × hm_M := if (0 ≤ f.toInt ∧ f.toInt ≤ 3) then (if (0 ≤ de.toInt ∧ de.toInt ≤ 399) then (if (0 ≤ ne.toInt ∧ ne.toInt ≤ 6) then (if (0 ≤ sp.toInt ∧ sp.toInt ≤ 70) then (if m 9 0 = nI 16 then (-1004, m) else (m 9 0, hm_uM (hm_cas m (m 9 0).toNatClampNeg f de ne sp) 9 (fun _ => m 9 0 + nI 1))) else (-1002, m)) else (-1002, m)) else (-1002, m)) else (-1001, m)
theorem hm_fil_o {x b y i : Nat} (hy : ¬ y = x) : ∀ (k j : Nat) (m : hm_M), hm_fil x b k j m y i = m y i := by
  intro k
  induction k with
  | zero => intro j m; rfl
  | succ k ih =>
    intro j m
    show hm_fil x b k (j + 1) _ y i = _
    rw [ih]
    show (if y = x then _ else m y) i = m y i
    rw [if_neg hy]
theorem hm_cas_9 (m : hm_M) (c : Nat) (f de ne sp : Int32) : hm_cas m c f de ne sp 9 0 = m 9 0 := by
  unfold hm_cas
  rw [hm_fil_o (by decide), hm_fil_o (by decide)]
  rfl
set_option maxRecDepth 20000 in
theorem s_145 {d n s : Nat} {m : hm_M} {h : Nat → Option va_E} {Q : Option Value → hm_H → Prop} {nc : Nat} (hn : m 9 0 = nI nc) (hnc : nc ≤ 16) {f de ne sp : Int32} (hQ : Q (some (.int (op_casus m f de ne sp).1)) (hm_hM (op_casus m f de ne sp).2 h n s)) : hm_T (d + 2) 145 0 [.ref 61, .int f, .int de, .int ne, .int sp, .retAddr 0, .retAddr 0] [] (hm_hM m h n s) Q := by
  have hncl : (m 9 0).toNatClampNeg = nc := by rw [hn]; exact nI_clamp (by omega)
  refine r_iload_n k_145_0 rfl ?_
  refine r_i2l k_145_1 ?_
  refine r_lconst k_145_2 cl_0 ?_
  refine r_ldc2_w m_145 k_145_3 ll_8_90 ?_
  refine r_calls3 m_145 k_145_6 cl_8_84 m_119 (by decide) rfl rfl (Nat.le_of_ble_eq_true rfl) (Nat.le_of_ble_eq_true rfl) ?_
  refine s_119 ?_
  rw [hm_ifc (hm_rngE2 f (a := 0) (b := 3) (lo := 0) (hi := 3) (by decide +kernel) (by decide +kernel))]
  refine r_if_ne k_145_9 rfl (fun c_9 => ?_) (fun c_9 => ?_)
  · have c_9 := hm_if1 c_9
    refine r_iload_n k_145_16 rfl ?_
    refine r_calls1 m_145 k_145_17 cl_8_205 m_146 (by decide) rfl rfl (Nat.le_of_ble_eq_true rfl) (Nat.le_of_ble_eq_true rfl) ?_
    refine s_146 ?_
    refine r_if_eq k_145_20 rfl (fun c_20 => ?_) (fun c_20 => ?_)
    · have c_20 := hm_if0 c_20
      refine r_sipush k_145_48 cs_m1002 ?_
      exact hm_T.ret m_145 k_145_51 rfl (by first | (simp only [op_casus, c_9, c_20, hncl, and_self, not_true_eq_false, not_false_eq_true, ↓reduceIte] at hQ; exact hQ) | contradiction)
    · have c_20 := hm_if1 c_20
      refine r_iload_n k_145_23 rfl ?_
      refine r_i2l k_145_24 ?_
      refine r_lconst k_145_25 cl_0 ?_
      refine r_ldc2_w m_145 k_145_26 ll_8_208 ?_
      refine r_calls3 m_145 k_145_29 cl_8_84 m_119 (by decide) rfl rfl (Nat.le_of_ble_eq_true rfl) (Nat.le_of_ble_eq_true rfl) ?_
      refine s_119 ?_
      rw [hm_ifc (hm_rngE2 ne (a := 0) (b := 6) (lo := 0) (hi := 6) (by decide +kernel) (by decide +kernel))]
      refine r_if_eq k_145_32 rfl (fun c_32 => ?_) (fun c_32 => ?_)
      · have c_32 := hm_if0 c_32
        refine r_sipush k_145_48 cs_m1002 ?_
        exact hm_T.ret m_145 k_145_51 rfl (by first | (simp only [op_casus, c_9, c_20, c_32, hncl, and_self, not_true_eq_false, not_false_eq_true, ↓reduceIte] at hQ; exact hQ) | contradiction)
      · have c_32 := hm_if1 c_32
        refine r_iload k_145_35 rfl ?_
        refine r_i2l k_145_37 ?_
        refine r_lconst k_145_38 cl_0 ?_
        refine r_ldc2_w m_145 k_145_39 ll_8_151 ?_
        refine r_calls3 m_145 k_145_42 cl_8_84 m_119 (by decide) rfl rfl (Nat.le_of_ble_eq_true rfl) (Nat.le_of_ble_eq_true rfl) ?_
        refine s_119 ?_
        rw [hm_ifc (hm_rngE2 sp (a := 0) (b := 70) (lo := 0) (hi := 70) (by decide +kernel) (by decide +kernel))]
        refine r_if_ne k_145_45 rfl (fun c_45 => ?_) (fun c_45 => ?_)
        · have c_45 := hm_if1 c_45
          refine r_aload_n k_145_52 rfl ?_
          refine r_get m_145 k_145_53 fl_8_81 rfl rfl ?_
          refine r_bipush k_145_56 cb_16 ?_
          refine r_icmp_ne k_145_58 rfl (fun c_58 => ?_) (fun c_58 => ?_)
          · refine r_aload_n k_145_65 rfl ?_
            refine r_get m_145 k_145_66 fl_8_81 rfl rfl ?_
            rw [hn]
            refine r_istore k_145_69 rfl ?_
            refine r_aload_n k_145_71 rfl ?_
            refine r_get m_145 k_145_72 fl_8_32 rfl rfl ?_
            refine r_iload k_145_75 rfl ?_
            refine r_iload_n k_145_77 rfl ?_
            refine r_iastn (k := nc) k_145_78 rfl rfl rfl (hm_ltn (hn ▸ c_58) hnc) (by decide) (wM_10 _) ?_
            refine r_aload_n k_145_79 rfl ?_
            refine r_get m_145 k_145_80 fl_8_35 rfl rfl ?_
            refine r_iload k_145_83 rfl ?_
            refine r_iload_n k_145_85 rfl ?_
            refine r_iastn (k := nc) k_145_86 rfl rfl rfl (hm_ltn (hn ▸ c_58) hnc) (by decide) (wM_11 _) ?_
            refine r_aload_n k_145_87 rfl ?_
            refine r_get m_145 k_145_88 fl_8_38 rfl rfl ?_
            refine r_iload k_145_91 rfl ?_
            refine r_iload_n k_145_93 rfl ?_
            refine r_iastn (k := nc) k_145_94 rfl rfl rfl (hm_ltn (hn ▸ c_58) hnc) (by decide) (wM_12 _) ?_
            refine r_aload_n k_145_95 rfl ?_
            refine r_get m_145 k_145_96 fl_8_41 rfl rfl ?_
            refine r_iload k_145_99 rfl ?_
            refine r_iload k_145_101 rfl ?_
            refine r_iastn (k := nc) k_145_103 rfl rfl rfl (hm_ltn (hn ▸ c_58) hnc) (by decide) (wM_13 _) ?_
            refine r_iconst k_145_104 ci_0 ?_
            refine r_istore k_145_105 rfl ?_
            refine l_145_14 (hm_ltn (hn ▸ c_58) hnc) 6 0 _ (by omega) ?_
            refine r_iconst k_145_134 ci_0 ?_
            refine r_istore k_145_135 rfl ?_
            refine l_145_15 (hm_ltn (hn ▸ c_58) hnc) 4 0 _ (by omega) ?_
            refine r_aload_n k_145_162 rfl ?_
            refine r_dup k_145_163 rfl ?_
            refine r_get m_145 k_145_164 fl_8_81 rfl rfl ?_
            refine r_iconst k_145_167 ci_1 ?_
            refine r_iadd k_145_168 ?_
            refine r_put m_145 k_145_169 fl_8_81 rfl (Nat.le_of_ble_eq_true rfl) rfl rfl (wM_9 _) ?_
            refine r_iload k_145_172 rfl ?_
            exact hm_T.ret m_145 k_145_174 rfl (by simp only [op_casus, hncl, c_9, c_20, c_32, c_45, c_58, and_self, not_true_eq_false, not_false_eq_true, ↓reduceIte] at hQ; rw [hn] at hQ; refine hm_congr2 rfl ?_ hQ; show hm_hM (hm_uM (hm_cas m nc f de ne sp) 9 (fun _ => hm_cas m nc f de ne sp 9 0 + nI 1)) h n s = _; rw [hm_cas_9, hn])
          · have c_58 := Decidable.of_not_not c_58
            refine r_sipush k_145_61 cs_m1004 ?_
            exact hm_T.ret m_145 k_145_64 rfl (by first | (simp only [op_casus, c_9, c_20, c_32, c_45, c_58, hncl, and_self, not_true_eq_false, not_false_eq_true, ↓reduceIte] at hQ; exact hQ) | contradiction)
        · have c_45 := hm_if0 (Decidable.of_not_not c_45)
          refine r_sipush k_145_48 cs_m1002 ?_
          exact hm_T.ret m_145 k_145_51 rfl (by first | (simp only [op_casus, c_9, c_20, c_32, c_45, hncl, and_self, not_true_eq_false, not_false_eq_true, ↓reduceIte] at hQ; exact hQ) | contradiction)
  · have c_9 := hm_if0 (Decidable.of_not_not c_9)
    refine r_sipush k_145_12 cs_m1001 ?_
    exact hm_T.ret m_145 k_145_15 rfl (by first | (simp only [op_casus, c_9, hncl, and_self, not_true_eq_false, not_false_eq_true, ↓reduceIte] at hQ; exact hQ) | contradiction)
def hm_hn (m : hm_M) (c t : Nat) (hour : Int32) : Int32 := hm_hin m (m 10 c).toNatClampNeg c t hour
def hm_ask (m : hm_M) (only faith : Int32) (c : Nat) : Int32 := if 0 ≤ only then (if ¬ nI c = only then nI 0 else nI 1) else (if ¬ m 10 c = faith then nI 0 else nI 1)
/-- the search that begins anew with each hour that falls -/
def hm_pr (only faith : Int32) (nc : Nat) : Nat → hm_M → Nat → Nat → Option (Nat × hm_M)
  | 0, _, _, _ => none
  | k + 1, m, j, a => if j < 4 * nc then (if hm_ask m only faith (j / 4) = 0 then hm_pr only faith nc k m (j + 1) a else if m 15 j < 0 then hm_pr only faith nc k m (j + 1) a else if hm_hn m (j / 4) (j % 4) (m 15 j) ≤ 0 then hm_pr only faith nc k m (j + 1) a else hm_pr only faith nc k (hm_uM m 15 (upd (m 15) j (-1))) 0 (a + 1)) else some (a, m)
set_option maxRecDepth 20000 in
theorem l_136 {d n s : Nat} {h : Nat → Option va_E} {Q : Option Value → hm_H → Prop} {only faith : Int32} {nc : Nat} (hnc : nc ≤ 16) {a2 : Nat} {m2 : hm_M} (hQ : Q (some (.int (nI a2))) (hm_hM (hm_uM m2 17 (fun _ => m2 17 0 + nI a2)) h n s)) : ∀ (k : Nat) (m : hm_M) (j a : Nat) (va vb : Value), va.category = 1 → vb.category = 1 → m 9 0 = nI nc → (∀ c, c < nc → ∃ f, m 10 c = nI f ∧ f < 4) → j ≤ 4 * nc → hm_pr only faith nc k m j a = some (a2, m2) → hm_T (d + 3) 136 5 [.ref 61, .int only, .int faith, .int (nI a), .int (nI j), va, vb] [] (hm_hM m h n s) Q := by
  intro k
  induction k with
  | zero =>
    intro m j a va vb hva hvb hn hF hjn hR
    exact absurd hR (by intro z; cases z)
  | succ k ih =>
    intro m j a va vb hva hvb hn hF hjn hR
    by_cases hj : j < 4 * nc
    · have hR2 : (if j < 4 * nc then (if hm_ask m only faith (j / 4) = 0 then hm_pr only faith nc k m (j + 1) a else if m 15 j < 0 then hm_pr only faith nc k m (j + 1) a else if hm_hn m (j / 4) (j % 4) (m 15 j) ≤ 0 then hm_pr only faith nc k m (j + 1) a else hm_pr only faith nc k (hm_uM m 15 (upd (m 15) j (-1))) 0 (a + 1)) else some (a, m)) = some (a2, m2) := hR
      rw [if_pos hj] at hR2
      suffices hS : hm_T (d + 3) 136 58 [.ref 61, .int only, .int faith, .int (nI a), .int (nI j), .int (nI (j / 4)), .int (hm_ask m only faith (j / 4))] [] (hm_hM m h n s) Q by
        refine r_iload k_136_5 rfl ?_
        refine r_iconst k_136_7 ci_4 ?_
        refine r_aload_n k_136_8 rfl ?_
        refine r_get m_136 k_136_9 fl_8_81 rfl rfl ?_
        rw [hn]
        refine r_imul k_136_12 ?_
        rw [nI_mul]
        refine r_icmp_ge k_136_13 rfl (fun z => absurd z (nI_ge (show j < 4 * nc by omega) (by omega))) (fun c_13 => ?_)
        refine r_iload k_136_16 rfl ?_
        refine r_iconst k_136_18 ci_4 ?_
        refine r_idiv k_136_19 (by decide) ?_
        rw [nI_div j 4 (by omega) (by decide) (by decide)]
        refine r_istore k_136_20 rfl ?_
        refine r_iload_n k_136_22 rfl ?_
        refine r_if_ge k_136_23 rfl (fun c_23 => ?_) (fun c_23 => ?_)
        · refine r_iload k_136_45 rfl ?_
          refine r_iload_n k_136_47 rfl ?_
          refine r_icmp_ne k_136_48 rfl (fun c_48 => ?_) (fun c_48 => ?_)
          · refine r_iconst k_136_55 ci_0 ?_
            refine r_istore k_136_56 rfl ?_
            rw [hm_ask, if_pos c_23, if_pos c_48] at hS
            exact hS
          · have c_48 := Decidable.of_not_not c_48
            refine r_iconst k_136_51 ci_1 ?_
            refine r_goto k_136_52 rfl ?_
            refine r_istore k_136_56 rfl ?_
            rw [hm_ask, if_pos c_23, if_neg (fun z => z c_48)] at hS
            exact hS
        · refine r_aload_n k_136_26 rfl ?_
          refine r_get m_136 k_136_27 fl_8_32 rfl rfl ?_
          refine r_iload k_136_30 rfl ?_
          refine r_ialdn (k := j / 4) k_136_32 rfl (Or.inl rfl) rfl (by omega) (by decide) ?_
          refine r_iload_n k_136_33 rfl ?_
          refine r_icmp_ne k_136_34 rfl (fun c_34 => ?_) (fun c_34 => ?_)
          · refine r_iconst k_136_41 ci_0 ?_
            refine r_goto k_136_42 rfl ?_
            refine r_istore k_136_56 rfl ?_
            rw [hm_ask, if_neg c_23, if_pos c_34] at hS
            exact hS
          · have c_34 := Decidable.of_not_not c_34
            refine r_iconst k_136_37 ci_1 ?_
            refine r_goto k_136_38 rfl ?_
            refine r_istore k_136_56 rfl ?_
            rw [hm_ask, if_neg c_23, if_neg (fun z => z c_34)] at hS
            exact hS
      refine r_iload k_136_58 rfl ?_
      refine r_if_eq k_136_60 rfl (fun c_60 => ?_) (fun c_60 => ?_)
      · refine r_iincn k_136_110 rfl (nI_inc j) rfl ?_
        refine r_goto k_136_113 rfl ?_
        rw [if_pos c_60] at hR2
        exact ih m (j + 1) a _ _ rfl rfl hn hF (by omega) hR2
      · refine r_aload_n k_136_63 rfl ?_
        refine r_get m_136 k_136_64 fl_8_47 rfl rfl ?_
        refine r_iload k_136_67 rfl ?_
        refine r_ialdn (k := j) k_136_69 rfl (Or.inl rfl) rfl (by omega) (by decide) ?_
        refine r_if_lt k_136_70 rfl (fun c_70 => ?_) (fun c_70 => ?_)
        · refine r_iincn k_136_110 rfl (nI_inc j) rfl ?_
          refine r_goto k_136_113 rfl ?_
          rw [if_neg c_60, if_pos c_70] at hR2
          exact ih m (j + 1) a _ _ rfl rfl hn hF (by omega) hR2
        · refine r_aload_n k_136_73 rfl ?_
          refine r_iload k_136_74 rfl ?_
          refine r_iload k_136_76 rfl ?_
          refine r_iconst k_136_78 ci_4 ?_
          refine r_irem k_136_79 (by decide) ?_
          rw [nI_rem j 4 (by omega) (by decide) (by decide)]
          refine r_aload_n k_136_80 rfl ?_
          refine r_get m_136 k_136_81 fl_8_47 rfl rfl ?_
          refine r_iload k_136_84 rfl ?_
          refine r_ialdn (k := j) k_136_86 rfl (Or.inl rfl) rfl (by omega) (by decide) ?_
          refine r_callv4 m_136 k_136_87 cl_8_183 m_137 (by decide) rfl rfl (Nat.le_of_ble_eq_true rfl) (Nat.le_of_ble_eq_true rfl) rfl rfl ?_
          obtain ⟨f, hf, hf4⟩ := hF (j / 4) (by omega)
          refine s_137 (c := j / 4) (t := j % 4) (f := f) (by omega) (by omega) hf hf4 ?_
          refine r_if_le k_136_90 rfl (fun c_90 => ?_) (fun c_90 => ?_)
          · refine r_iincn k_136_110 rfl (nI_inc j) rfl ?_
            refine r_goto k_136_113 rfl ?_
            rw [if_neg c_60, if_neg c_70, if_pos (show hm_hn m (j / 4) (j % 4) (m 15 j) ≤ 0 by unfold hm_hn; rw [hf, nI_clamp (by omega)]; exact c_90)] at hR2
            exact ih m (j + 1) a _ _ rfl rfl hn hF (by omega) hR2
          · refine r_aload_n k_136_93 rfl ?_
            refine r_get m_136 k_136_94 fl_8_47 rfl rfl ?_
            refine r_iload k_136_97 rfl ?_
            refine r_iconst k_136_99 ci_m1 ?_
            refine r_iastn (k := j) k_136_100 rfl rfl rfl (by omega) (by decide) (wM_15 _) ?_
            refine r_iincn k_136_101 rfl (nI_inc a) rfl ?_
            refine r_iconst k_136_104 ci_0 ?_
            refine r_istore k_136_105 rfl ?_
            refine r_goto k_136_107 rfl ?_
            refine r_goto k_136_113 rfl ?_
            rw [if_neg c_60, if_neg c_70, if_neg (show ¬ hm_hn m (j / 4) (j % 4) (m 15 j) ≤ 0 by unfold hm_hn; rw [hf, nI_clamp (by omega)]; exact c_90)] at hR2
            exact ih _ 0 (a + 1) _ _ rfl rfl hn hF (by omega) hR2
    · have hR2 : (if j < 4 * nc then _ else some (a, m)) = some (a2, m2) := hR
      rw [if_neg hj] at hR2
      cases hR2
      refine r_iload k_136_5 rfl ?_
      refine r_iconst k_136_7 ci_4 ?_
      refine r_aload_n k_136_8 rfl ?_
      refine r_get m_136 k_136_9 fl_8_81 rfl rfl ?_
      rw [hn]
      refine r_imul k_136_12 ?_
      rw [nI_mul]
      refine r_icmp_ge k_136_13 rfl (fun c_13 => ?_) (fun z => absurd (nI_le (show 4 * nc ≤ j by omega) (by omega)) z)
      refine r_aload_n k_136_116 rfl ?_
      refine r_dup k_136_117 rfl ?_
      refine r_get m_136 k_136_118 fl_8_210 rfl rfl ?_
      refine r_iload_n k_136_121 rfl ?_
      refine r_iadd k_136_122 ?_
      refine r_put m_136 k_136_123 fl_8_210 rfl (Nat.le_of_ble_eq_true rfl) rfl rfl (wM_17 _) ?_
      refine r_iload_n k_136_126 rfl ?_
      exact hm_T.ret m_136 k_136_127 rfl hQ
set_option maxRecDepth 20000 in
theorem s_136 {d n s : Nat} {m : hm_M} {h : Nat → Option va_E} {Q : Option Value → hm_H → Prop} {nc : Nat} (hn : m 9 0 = nI nc) (hnc : nc ≤ 16) {only faith : Int32} (hF : ∀ c, c < nc → ∃ f, m 10 c = nI f ∧ f < 4) {k a2 : Nat} {m2 : hm_M} (hR : hm_pr only faith nc k m 0 0 = some (a2, m2)) (hQ : Q (some (.int (nI a2))) (hm_hM (hm_uM m2 17 (fun _ => m2 17 0 + nI a2)) h n s)) : hm_T (d + 3) 136 0 [.ref 61, .int only, .int faith, .retAddr 0, .retAddr 0, .retAddr 0, .retAddr 0] [] (hm_hM m h n s) Q := by
  refine r_iconst k_136_0 ci_0 ?_
  refine r_istore_n k_136_1 rfl ?_
  refine r_iconst k_136_2 ci_0 ?_
  refine r_istore k_136_3 rfl ?_
  exact l_136 hnc hQ k m 0 0 _ _ rfl rfl hn hF (by omega) hR
def hm_pap (m : hm_M) (c p : Nat) (x : Int32) : hm_M := hm_uM m 14 (upd (m 14) (6 * c + p) x)
/-- what an undoing leaves: its number, and the count of all that were undone -/
def hm_un (r : Nat × hm_M) : hm_M := hm_uM r.2 17 (fun _ => r.2 17 0 + nI r.1)
set_option maxRecDepth 20000 in
theorem s_147_bad {d n s : Nat} {m : hm_M} {h : Nat → Option va_E} {Q : Option Value → hm_H → Prop} {nc : Nat} (hn : m 9 0 = nI nc) (hnc : nc ≤ 16) {c pa x : Int32} (hb : ¬ (0 ≤ c.toInt ∧ c.toInt < nc)) (hQ : Q (some (.int (-1001))) (hm_hM m h n s)) : hm_T (d + 4) 147 0 [.ref 61, .int c, .int pa, .int x] [] (hm_hM m h n s) Q := by
  refine r_aload_n k_147_0 rfl ?_
  refine r_iload_n k_147_1 rfl ?_
  refine r_callv2 m_147 k_147_2 cl_8_213 m_148 (by decide) rfl rfl (Nat.le_of_ble_eq_true rfl) (Nat.le_of_ble_eq_true rfl) rfl rfl ?_
  refine s_148 hn hnc ?_
  rw [if_neg hb]
  refine r_if_ne k_147_5 rfl (fun z => absurd z (fun z => z rfl)) (fun c_5 => ?_)
  refine r_sipush k_147_8 cs_m1001 ?_
  exact hm_T.ret m_147 k_147_11 rfl hQ
set_option maxRecDepth 20000 in
theorem s_147_out {d n s : Nat} {m : hm_M} {h : Nat → Option va_E} {Q : Option Value → hm_H → Prop} {nc : Nat} (hn : m 9 0 = nI nc) (hnc : nc ≤ 16) {c pa x : Int32} (hb : (0 ≤ c.toInt ∧ c.toInt < nc)) (hx : ¬ ((0 ≤ pa.toInt ∧ pa.toInt ≤ 5) ∧ (-1 ≤ x.toInt ∧ x.toInt ≤ 399))) (hQ : Q (some (.int (-1002))) (hm_hM m h n s)) : hm_T (d + 4) 147 0 [.ref 61, .int c, .int pa, .int x] [] (hm_hM m h n s) Q := by
  refine r_aload_n k_147_0 rfl ?_
  refine r_iload_n k_147_1 rfl ?_
  refine r_callv2 m_147 k_147_2 cl_8_213 m_148 (by decide) rfl rfl (Nat.le_of_ble_eq_true rfl) (Nat.le_of_ble_eq_true rfl) rfl rfl ?_
  refine s_148 hn hnc ?_
  rw [if_pos hb]
  refine r_if_ne k_147_5 rfl (fun c_5 => ?_) (fun z => absurd (show ¬ (1 : Int32) = 0 by decide) z)
  refine r_iload_n k_147_12 rfl ?_
  refine r_i2l k_147_13 ?_
  refine r_lconst k_147_14 cl_0 ?_
  refine r_ldc2_w m_147 k_147_15 ll_8_216 ?_
  refine r_calls3 m_147 k_147_18 cl_8_84 m_119 (by decide) rfl rfl (Nat.le_of_ble_eq_true rfl) (Nat.le_of_ble_eq_true rfl) ?_
  refine s_119 ?_
  rw [hm_ifc (hm_rngE2 pa (a := 0) (b := 5) (lo := 0) (hi := 5) (by decide +kernel) (by decide +kernel))]
  refine r_if_eq k_147_21 rfl (fun c_21 => ?_) (fun c_21 => ?_)
  · have c_21 := hm_if0 c_21
    refine r_sipush k_147_38 cs_m1002 ?_
    exact hm_T.ret m_147 k_147_41 rfl hQ
  · have c_21 := hm_if1 c_21
    refine r_iload_n k_147_24 rfl ?_
    refine r_i2l k_147_25 ?_
    refine r_ldc2_w m_147 k_147_26 ll_8_218 ?_
    refine r_ldc2_w m_147 k_147_29 ll_8_88 ?_
    refine r_calls3 m_147 k_147_32 cl_8_84 m_119 (by decide) rfl rfl (Nat.le_of_ble_eq_true rfl) (Nat.le_of_ble_eq_true rfl) ?_
    refine s_119 ?_
    rw [hm_ifc (hm_rngE2 x (a := -1) (b := 399) (lo := -1) (hi := 399) (by decide +kernel) (by decide +kernel))]
    refine r_if_ne k_147_35 rfl (fun c_35 => ?_) (fun c_35 => ?_)
    · have c_35 := hm_if1 c_35
      exact absurd ⟨c_21, c_35⟩ hx
    · have c_35 := hm_if0 (Decidable.of_not_not c_35)
      refine r_sipush k_147_38 cs_m1002 ?_
      exact hm_T.ret m_147 k_147_41 rfl hQ
set_option maxRecDepth 20000 in
theorem s_147 {d n s : Nat} {m : hm_M} {h : Nat → Option va_E} {Q : Option Value → hm_H → Prop} {nc : Nat} (hn : m 9 0 = nI nc) (hnc : nc ≤ 16) {ck pk : Nat} {x : Int32} (hck : ck < nc) (hpk : pk < 6) (hx : -1 ≤ x.toInt ∧ x.toInt ≤ 399) (hF : ∀ c, c < nc → ∃ f, m 10 c = nI f ∧ f < 4) {k : Nat} {r : Nat × hm_M} (hR : hm_pr (nI ck) (-1) nc k (hm_pap m ck pk x) 0 0 = some r) (hQ : Q (some (.int (nI r.1))) (hm_hM (hm_un r) h n s)) : hm_T (d + 4) 147 0 [.ref 61, .int (nI ck), .int (nI pk), .int x] [] (hm_hM m h n s) Q := by
  refine r_aload_n k_147_0 rfl ?_
  refine r_iload_n k_147_1 rfl ?_
  refine r_callv2 m_147 k_147_2 cl_8_213 m_148 (by decide) rfl rfl (Nat.le_of_ble_eq_true rfl) (Nat.le_of_ble_eq_true rfl) rfl rfl ?_
  refine s_148 hn hnc ?_
  rw [if_pos (by rw [nI_toInt (by omega)]; omega)]
  refine r_if_ne k_147_5 rfl (fun c_5 => ?_) (fun z => absurd (show ¬ (1 : Int32) = 0 by decide) z)
  refine r_iload_n k_147_12 rfl ?_
  refine r_i2l k_147_13 ?_
  refine r_lconst k_147_14 cl_0 ?_
  refine r_ldc2_w m_147 k_147_15 ll_8_216 ?_
  refine r_calls3 m_147 k_147_18 cl_8_84 m_119 (by decide) rfl rfl (Nat.le_of_ble_eq_true rfl) (Nat.le_of_ble_eq_true rfl) ?_
  refine s_119 ?_
  rw [hm_ifc (hm_rngE2 (nI pk) (a := 0) (b := 5) (lo := 0) (hi := 5) (by decide +kernel) (by decide +kernel))]
  rw [if_pos (by rw [nI_toInt (by omega)]; omega)]
  refine r_if_eq k_147_21 rfl (fun z => absurd z (show ¬ (1 : Int32) = 0 by decide)) (fun c_21 => ?_)
  refine r_iload_n k_147_24 rfl ?_
  refine r_i2l k_147_25 ?_
  refine r_ldc2_w m_147 k_147_26 ll_8_218 ?_
  refine r_ldc2_w m_147 k_147_29 ll_8_88 ?_
  refine r_calls3 m_147 k_147_32 cl_8_84 m_119 (by decide) rfl rfl (Nat.le_of_ble_eq_true rfl) (Nat.le_of_ble_eq_true rfl) ?_
  refine s_119 ?_
  rw [hm_ifc (hm_rngE2 x (a := -1) (b := 399) (lo := -1) (hi := 399) (by decide +kernel) (by decide +kernel))]
  rw [if_pos hx]
  refine r_if_ne k_147_35 rfl (fun c_35 => ?_) (fun z => absurd (show ¬ (1 : Int32) = 0 by decide) z)
  refine r_aload_n k_147_42 rfl ?_
  refine r_get m_147 k_147_43 fl_8_44 rfl rfl ?_
  refine r_bipush k_147_46 cb_6 ?_
  refine r_iload_n k_147_48 rfl ?_
  refine r_imul k_147_49 ?_
  refine r_iload_n k_147_50 rfl ?_
  refine r_iadd k_147_51 ?_
  refine r_iload_n k_147_52 rfl ?_
  refine r_iastn (k := 6 * ck + pk) k_147_53 rfl rfl (by rw [nI_mul, nI_add]) (by omega) (by decide) (wM_14 _) ?_
  refine r_aload_n k_147_54 rfl ?_
  refine r_iload_n k_147_55 rfl ?_
  refine r_iconst k_147_56 ci_m1 ?_
  refine r_callv3 m_147 k_147_57 cl_8_162 m_136 (by decide) rfl rfl (Nat.le_of_ble_eq_true rfl) (Nat.le_of_ble_eq_true rfl) rfl rfl ?_
  exact s_136 (m := hm_pap m ck pk x) hn hnc hF hR (hm_T.ret m_147 k_147_60 rfl hQ)
