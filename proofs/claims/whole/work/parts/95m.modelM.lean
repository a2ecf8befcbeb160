theorem hm_uMc {m : hm_M} {k j : Nat} {f g : Nat → Int32} (h : ¬ k = j) : hm_uM (hm_uM m k f) j g = hm_uM (hm_uM m j g) k f := by
  funext i
  show (if i = j then g else if i = k then f else m i) = (if i = k then f else if i = j then g else m i)
  by_cases h1 : i = j
  · subst h1
    rw [if_pos rfl, if_neg (fun z => h z.symm), if_pos rfl]
  · rw [if_neg h1, if_neg h1]
theorem hm_pa_g (m : hm_M) (a : Nat) (F : Nat → Int32) : hm_pa m a F 24 0 = nI a := rfl
theorem hm_it_f {c : Int32} {cl f : Nat} {F : Nat → Int32} (h : hm_it c cl F = .inl f) : f = 1 ∨ f = 4 ∨ f = 5 := by
  unfold hm_it at h
  repeat' split at h
  all_goals first | (cases h; omega) | (cases h; exact Or.inl rfl) | (cases h; exact Or.inr (Or.inl rfl)) | (cases h; exact Or.inr (Or.inr rfl)) | cases h
theorem hm_it_m {cl : Nat} {F : Nat → Int32} : hm_it (-1) cl F = .inl 1 := by
  unfold hm_it
  rw [if_neg (by decide), if_neg (by decide), if_neg (by decide), if_pos (by decide)]
theorem hm_so_lt {c : Int32} (h : ¬ hm_so c < 0) : ∃ k, k < 4 ∧ hm_so c = nI k := by
  unfold hm_so at h ⊢
  split
  · split
    · split
      · split
        · rename_i h1 h2 h3 h4
          rw [if_pos h1, if_pos h2, if_pos h3, if_pos h4] at h
          exact absurd (by decide) h
        · exact ⟨3, by decide, rfl⟩
      · exact ⟨2, by decide, rfl⟩
    · exact ⟨1, by decide, rfl⟩
  · exact ⟨0, by decide, rfl⟩
set_option maxRecDepth 20000 in
theorem s_134 {d n s : Nat} {m : hm_M} {h : Nat → Option va_E} {Q : Option Value → hm_H → Prop} {N : Nat} (hN : m 7 0 = nI N) (hN1 : N ≤ 100) {F : Nat → Int32} {a cl : Nat} {c : Int32} (hac : a < N ∨ c = -1) (hcl : cl < 4) (hf : ∀ f, hm_it c cl F = .inl f → Q (some (.int (nI f))) (hm_hM (hm_uM (hm_pa m a F) 8 (fun _ => nI a)) h n s)) (hc : ∀ F2, hm_it c cl F = .inr (.inl F2) → Q (some (.int (nI 0))) (hm_hM (hm_pa m (a + 1) F2) h n s)) (h0 : ∀ b, hm_it c cl F = .inr (.inr b) → hm_nf (m 6) N (hm_skp (m 6) N (a + 1)) = 0 → Q (some (.int (nI 1))) (hm_hM (hm_uM (hm_pa m (hm_skp (m 6) N (a + 1)) F) 8 (fun _ => nI (hm_skp (m 6) N (a + 1)))) h n s)) (h4 : ∀ b, hm_it c cl F = .inr (.inr b) → hm_nf (m 6) N (hm_skp (m 6) N (a + 1)) = 4 → ∀ a2, Q (some (.int (nI 2))) (hm_hM (hm_uM (hm_pa m a2 F) 8 (fun _ => nI (hm_skp (m 6) N (a + 1)))) h n s)) (h1 : ∀ b, hm_it c cl F = .inr (.inr b) → ∀ k, hm_nf (m 6) N (hm_skp (m 6) N (a + 1)) = k → 0 < k → k < 4 → Q (some (.int (nI 0))) (hm_hM (hm_pa m (hm_skp (m 6) N (a + 1) + k) (upd F (5 * cl + b) (hm_nv (m 6) (hm_skp (m 6) N (a + 1)) k))) h n s)) : hm_T (d + 2) 134 0 [.ref 61, .int (nI cl), .int c, .retAddr 0, .retAddr 0, .retAddr 0] [] (hm_hM (hm_pa m a F) h n s) Q := by
  refine r_iconst k_134_0 ci_5 ?_
  refine r_iload_n k_134_1 rfl ?_
  refine r_imul k_134_2 ?_
  rw [nI_mul]
  refine r_istore_n k_134_3 rfl ?_
  refine r_iload_n k_134_4 rfl ?_
  refine r_calls1 m_134 k_134_5 cl_8_146 m_132 (by decide) rfl rfl (Nat.le_of_ble_eq_true rfl) (Nat.le_of_ble_eq_true rfl) ?_
  refine s_132 ?_
  refine r_istore k_134_8 rfl ?_
  refine r_iload_n k_134_10 rfl ?_
  refine r_i2l k_134_11 ?_
  refine r_ldc2_w m_134 k_134_12 ll_8_149 ?_
  refine r_ldc2_w m_134 k_134_15 ll_8_151 ?_
  refine r_calls3 m_134 k_134_18 cl_8_84 m_119 (by decide) rfl rfl (Nat.le_of_ble_eq_true rfl) (Nat.le_of_ble_eq_true rfl) ?_
  refine s_119 ?_
  rw [hm_ifc (hm_rngE2 c (a := 65) (b := 70) (lo := 65) (hi := 70) (by decide +kernel) (by decide +kernel))]
  refine r_if_eq k_134_21 rfl (fun c_21 => ?_) (fun c_21 => ?_)
  · have c_21 := hm_if0 c_21
    refine r_iload_n k_134_69 rfl ?_
    refine r_bipush k_134_70 cb_60 ?_
    refine r_icmp_eq k_134_72 rfl (fun c_72 => ?_) (fun c_72 => ?_)
    · have hcN : a < N := by
        rcases hac with h | h
        · exact h
        · rw [h] at c_72
          exact absurd c_72 (by decide)
      have hb1 : hm_bd c = 1 := if_pos c_72
      refine r_iload_n k_134_81 rfl ?_
      refine r_iload_n k_134_82 rfl ?_
      refine r_bipush k_134_83 cb_60 ?_
      refine r_icmp_ne k_134_85 rfl (fun z => absurd z (fun z => z c_72)) (fun c_85 => ?_)
      refine r_iconst k_134_88 ci_1 ?_
      refine r_goto k_134_89 rfl ?_
      refine r_iadd k_134_93 ?_
      rw [nI_add]
      refine r_istore k_134_94 rfl ?_
      refine r_aload_n k_134_96 rfl ?_
      refine r_get m_134 k_134_97 fl_8_22 rfl rfl ?_
      refine r_iload k_134_100 rfl ?_
      refine r_ialdn (k := 5 * cl + 1) k_134_102 rfl (Or.inl rfl) rfl (by omega) (by decide) ?_
      refine r_if_lt k_134_103 rfl (fun c_103 => ?_) (fun c_103 => ?_)
      · refine r_aload_n k_134_116 rfl ?_
        refine r_dup k_134_117 rfl ?_
        refine r_get m_134 k_134_118 fl_8_132 rfl rfl ?_
        rw [hm_pa_g]
        refine r_iconst k_134_121 ci_1 ?_
        refine r_iadd k_134_122 ?_
        refine r_put m_134 k_134_123 fl_8_132 rfl (Nat.le_of_ble_eq_true rfl) rfl rfl ((wM_24 _).trans (by rw [hm_pa_24])) ?_
        refine r_aload_n k_134_126 rfl ?_
        refine r_iload k_134_127 rfl ?_
        refine r_callv2 m_134 k_134_129 cl_8_153 m_135 (by decide) rfl rfl (Nat.le_of_ble_eq_true rfl) (Nat.le_of_ble_eq_true rfl) rfl rfl ?_
        refine s_135 hN hN1 (pl := 5 * cl + 1) (by omega) (show a + 1 ≤ N by omega) (fun e => ?_) (fun e a2 => ?_) (fun k e e1 e2 => ?_)
        · exact hm_T.ret m_134 k_134_132 rfl (h0 1 (by unfold hm_it; rw [if_neg c_21, if_pos (Or.inl c_72), if_pos (show F (5 * cl + hm_bd c) < 0 by rw [hb1]; exact c_103), hb1]; try rfl) e)
        · exact hm_T.ret m_134 k_134_132 rfl (h4 1 (by unfold hm_it; rw [if_neg c_21, if_pos (Or.inl c_72), if_pos (show F (5 * cl + hm_bd c) < 0 by rw [hb1]; exact c_103), hb1]; try rfl) e a2)
        · exact hm_T.ret m_134 k_134_132 rfl (h1 1 (by unfold hm_it; rw [if_neg c_21, if_pos (Or.inl c_72), if_pos (show F (5 * cl + hm_bd c) < 0 by rw [hb1]; exact c_103), hb1]; try rfl) k e e1 e2)
      · refine r_aload_n k_134_106 rfl ?_
        refine r_iconst k_134_107 ci_4 ?_
        refine r_aload_n k_134_108 rfl ?_
        refine r_get m_134 k_134_109 fl_8_132 rfl rfl ?_
        rw [hm_pa_g]
        refine r_callv3 m_134 k_134_112 cl_8_143 m_133 (by decide) rfl rfl (Nat.le_of_ble_eq_true rfl) (Nat.le_of_ble_eq_true rfl) rfl rfl ?_
        refine s_133 ?_
        exact hm_T.ret m_134 k_134_115 rfl (hf 4 (by unfold hm_it; rw [if_neg c_21, if_pos (Or.inl c_72), if_neg (show ¬ F (5 * cl + hm_bd c) < 0 by rw [hb1]; exact c_103)]; try rfl))
    · refine r_iload_n k_134_75 rfl ?_
      refine r_bipush k_134_76 cb_62 ?_
      refine r_icmp_ne k_134_78 rfl (fun c_78 => ?_) (fun c_78 => ?_)
      · refine r_iload_n k_134_133 rfl ?_
        refine r_bipush k_134_134 cb_33 ?_
        refine r_icmp_ne k_134_136 rfl (fun c_136 => ?_) (fun c_136 => ?_)
        · refine r_iload k_134_173 rfl ?_
          refine r_if_lt k_134_175 rfl (fun c_175 => ?_) (fun c_175 => ?_)
          · refine r_aload_n k_134_239 rfl ?_
            refine r_iconst k_134_240 ci_1 ?_
            refine r_aload_n k_134_241 rfl ?_
            refine r_get m_134 k_134_242 fl_8_132 rfl rfl ?_
            rw [hm_pa_g]
            refine r_callv3 m_134 k_134_245 cl_8_143 m_133 (by decide) rfl rfl (Nat.le_of_ble_eq_true rfl) (Nat.le_of_ble_eq_true rfl) rfl rfl ?_
            refine s_133 ?_
            exact hm_T.ret m_134 k_134_248 rfl (hf 1 (by unfold hm_it; rw [if_neg c_21, if_neg (fun z => z.elim c_72 c_78), if_neg c_136, if_pos c_175]; try rfl))
          · refine r_iload k_134_178 rfl ?_
            refine r_iload_n k_134_180 rfl ?_
            refine r_icmp_ne k_134_181 rfl (fun c_181 => ?_) (fun c_181 => ?_)
            · refine r_aload_n k_134_194 rfl ?_
              refine r_get m_134 k_134_195 fl_8_22 rfl rfl ?_
              refine r_iload_n k_134_198 rfl ?_
              refine r_iconst k_134_199 ci_4 ?_
              refine r_iadd k_134_200 ?_
              rw [nI_add]
              refine r_ialdn (k := 5 * cl + 4) k_134_201 rfl (Or.inl rfl) rfl (by omega) (by decide) ?_
              refine r_iload k_134_202 rfl ?_
              refine r_ishr k_134_204 ?_
              refine r_iconst k_134_205 ci_1 ?_
              refine r_iand k_134_206 ?_
              refine r_iconst k_134_207 ci_1 ?_
              refine r_icmp_ne k_134_208 rfl (fun c_208 => ?_) (fun c_208 => ?_)
              · refine r_aload_n k_134_221 rfl ?_
                refine r_get m_134 k_134_222 fl_8_22 rfl rfl ?_
                refine r_iload_n k_134_225 rfl ?_
                refine r_iconst k_134_226 ci_4 ?_
                refine r_iadd k_134_227 ?_
                rw [nI_add]
                refine r_dup2 k_134_228 rfl rfl ?_
                refine r_ialdn (k := 5 * cl + 4) k_134_229 rfl (Or.inl rfl) rfl (by omega) (by decide) ?_
                refine r_iconst k_134_230 ci_1 ?_
                refine r_iload k_134_231 rfl ?_
                refine r_ishl k_134_233 ?_
                refine r_ior k_134_234 ?_
                refine r_iastn (k := 5 * cl + 4) k_134_235 rfl rfl rfl (by omega) (by decide) ((wM_5 _).trans (by rw [hm_pa_5])) ?_
                refine r_goto k_134_236 rfl ?_
                refine r_aload_n k_134_249 rfl ?_
                refine r_dup k_134_250 rfl ?_
                refine r_get m_134 k_134_251 fl_8_132 rfl rfl ?_
                rw [hm_pa_g]
                refine r_iconst k_134_254 ci_1 ?_
                refine r_iadd k_134_255 ?_
                refine r_put m_134 k_134_256 fl_8_132 rfl (Nat.le_of_ble_eq_true rfl) rfl rfl ((wM_24 _).trans (by rw [hm_pa_24])) ?_
                refine r_iconst k_134_259 ci_0 ?_
                exact hm_T.ret m_134 k_134_260 rfl (hc _ (by unfold hm_it; rw [if_neg c_21, if_neg (fun z => z.elim c_72 c_78), if_neg c_136, if_neg c_175, if_neg c_181, if_neg (show ¬ hm_has (F (5 * cl + 4)) (hm_so c) = true from fun z => c_208 (of_decide_eq_true z))]; try rfl))
              · have c_208 := Decidable.of_not_not c_208
                refine r_aload_n k_134_211 rfl ?_
                refine r_iconst k_134_212 ci_4 ?_
                refine r_aload_n k_134_213 rfl ?_
                refine r_get m_134 k_134_214 fl_8_132 rfl rfl ?_
                rw [hm_pa_g]
                refine r_callv3 m_134 k_134_217 cl_8_143 m_133 (by decide) rfl rfl (Nat.le_of_ble_eq_true rfl) (Nat.le_of_ble_eq_true rfl) rfl rfl ?_
                refine s_133 ?_
                exact hm_T.ret m_134 k_134_220 rfl (hf 4 (by unfold hm_it; rw [if_neg c_21, if_neg (fun z => z.elim c_72 c_78), if_neg c_136, if_neg c_175, if_neg c_181, if_pos (show hm_has (F (5 * cl + 4)) (hm_so c) = true from decide_eq_true c_208)]; try rfl))
            · have c_181 := Decidable.of_not_not c_181
              refine r_aload_n k_134_184 rfl ?_
              refine r_iconst k_134_185 ci_5 ?_
              refine r_aload_n k_134_186 rfl ?_
              refine r_get m_134 k_134_187 fl_8_132 rfl rfl ?_
              rw [hm_pa_g]
              refine r_callv3 m_134 k_134_190 cl_8_143 m_133 (by decide) rfl rfl (Nat.le_of_ble_eq_true rfl) (Nat.le_of_ble_eq_true rfl) rfl rfl ?_
              refine s_133 ?_
              exact hm_T.ret m_134 k_134_193 rfl (hf 5 (by unfold hm_it; rw [if_neg c_21, if_neg (fun z => z.elim c_72 c_78), if_neg c_136, if_neg c_175, if_pos c_181]; try rfl))
        · have c_136 := Decidable.of_not_not c_136
          refine r_aload_n k_134_139 rfl ?_
          refine r_get m_134 k_134_140 fl_8_22 rfl rfl ?_
          refine r_iload_n k_134_143 rfl ?_
          refine r_iconst k_134_144 ci_3 ?_
          refine r_iadd k_134_145 ?_
          rw [nI_add]
          refine r_ialdn (k := 5 * cl + 3) k_134_146 rfl (Or.inl rfl) rfl (by omega) (by decide) ?_
          refine r_iconst k_134_147 ci_1 ?_
          refine r_icmp_ne k_134_148 rfl (fun c_148 => ?_) (fun c_148 => ?_)
          · refine r_aload_n k_134_161 rfl ?_
            refine r_get m_134 k_134_162 fl_8_22 rfl rfl ?_
            refine r_iload_n k_134_165 rfl ?_
            refine r_iconst k_134_166 ci_3 ?_
            refine r_iadd k_134_167 ?_
            rw [nI_add]
            refine r_iconst k_134_168 ci_1 ?_
            refine r_iastn (k := 5 * cl + 3) k_134_169 rfl rfl rfl (by omega) (by decide) ((wM_5 _).trans (by rw [hm_pa_5])) ?_
            refine r_goto k_134_170 rfl ?_
            refine r_aload_n k_134_249 rfl ?_
            refine r_dup k_134_250 rfl ?_
            refine r_get m_134 k_134_251 fl_8_132 rfl rfl ?_
            rw [hm_pa_g]
            refine r_iconst k_134_254 ci_1 ?_
            refine r_iadd k_134_255 ?_
            refine r_put m_134 k_134_256 fl_8_132 rfl (Nat.le_of_ble_eq_true rfl) rfl rfl ((wM_24 _).trans (by rw [hm_pa_24])) ?_
            refine r_iconst k_134_259 ci_0 ?_
            exact hm_T.ret m_134 k_134_260 rfl (hc _ (by unfold hm_it; rw [if_neg c_21, if_neg (fun z => z.elim c_72 c_78), if_pos c_136, if_neg (show ¬ F (5 * cl + 3) = nI 1 from c_148)]; try rfl))
          · have c_148 := Decidable.of_not_not c_148
            refine r_aload_n k_134_151 rfl ?_
            refine r_iconst k_134_152 ci_4 ?_
            refine r_aload_n k_134_153 rfl ?_
            refine r_get m_134 k_134_154 fl_8_132 rfl rfl ?_
            rw [hm_pa_g]
            refine r_callv3 m_134 k_134_157 cl_8_143 m_133 (by decide) rfl rfl (Nat.le_of_ble_eq_true rfl) (Nat.le_of_ble_eq_true rfl) rfl rfl ?_
            refine s_133 ?_
            exact hm_T.ret m_134 k_134_160 rfl (hf 4 (by unfold hm_it; rw [if_neg c_21, if_neg (fun z => z.elim c_72 c_78), if_pos c_136, if_pos (show F (5 * cl + 3) = nI 1 from c_148)]; try rfl))
      · have c_78 := Decidable.of_not_not c_78
        have hcN : a < N := by
          rcases hac with h | h
          · exact h
          · rw [h] at c_78
            exact absurd c_78 (by decide)
        have hb1 : hm_bd c = 2 := if_neg c_72
        refine r_iload_n k_134_81 rfl ?_
        refine r_iload_n k_134_82 rfl ?_
        refine r_bipush k_134_83 cb_60 ?_
        refine r_icmp_ne k_134_85 rfl (fun c_85 => ?_) (fun z => absurd c_72 z)
        refine r_iconst k_134_92 ci_2 ?_
        refine r_iadd k_134_93 ?_
        rw [nI_add]
        refine r_istore k_134_94 rfl ?_
        refine r_aload_n k_134_96 rfl ?_
        refine r_get m_134 k_134_97 fl_8_22 rfl rfl ?_
        refine r_iload k_134_100 rfl ?_
        refine r_ialdn (k := 5 * cl + 2) k_134_102 rfl (Or.inl rfl) rfl (by omega) (by decide) ?_
        refine r_if_lt k_134_103 rfl (fun c_103 => ?_) (fun c_103 => ?_)
        · refine r_aload_n k_134_116 rfl ?_
          refine r_dup k_134_117 rfl ?_
          refine r_get m_134 k_134_118 fl_8_132 rfl rfl ?_
          rw [hm_pa_g]
          refine r_iconst k_134_121 ci_1 ?_
          refine r_iadd k_134_122 ?_
          refine r_put m_134 k_134_123 fl_8_132 rfl (Nat.le_of_ble_eq_true rfl) rfl rfl ((wM_24 _).trans (by rw [hm_pa_24])) ?_
          refine r_aload_n k_134_126 rfl ?_
          refine r_iload k_134_127 rfl ?_
          refine r_callv2 m_134 k_134_129 cl_8_153 m_135 (by decide) rfl rfl (Nat.le_of_ble_eq_true rfl) (Nat.le_of_ble_eq_true rfl) rfl rfl ?_
          refine s_135 hN hN1 (pl := 5 * cl + 2) (by omega) (show a + 1 ≤ N by omega) (fun e => ?_) (fun e a2 => ?_) (fun k e e1 e2 => ?_)
          · exact hm_T.ret m_134 k_134_132 rfl (h0 2 (by unfold hm_it; rw [if_neg c_21, if_pos (Or.inr c_78), if_pos (show F (5 * cl + hm_bd c) < 0 by rw [hb1]; exact c_103), hb1]; try rfl) e)
          · exact hm_T.ret m_134 k_134_132 rfl (h4 2 (by unfold hm_it; rw [if_neg c_21, if_pos (Or.inr c_78), if_pos (show F (5 * cl + hm_bd c) < 0 by rw [hb1]; exact c_103), hb1]; try rfl) e a2)
          · exact hm_T.ret m_134 k_134_132 rfl (h1 2 (by unfold hm_it; rw [if_neg c_21, if_pos (Or.inr c_78), if_pos (show F (5 * cl + hm_bd c) < 0 by rw [hb1]; exact c_103), hb1]; try rfl) k e e1 e2)
        · refine r_aload_n k_134_106 rfl ?_
          refine r_iconst k_134_107 ci_4 ?_
          refine r_aload_n k_134_108 rfl ?_
          refine r_get m_134 k_134_109 fl_8_132 rfl rfl ?_
          rw [hm_pa_g]
          refine r_callv3 m_134 k_134_112 cl_8_143 m_133 (by decide) rfl rfl (Nat.le_of_ble_eq_true rfl) (Nat.le_of_ble_eq_true rfl) rfl rfl ?_
          refine s_133 ?_
          exact hm_T.ret m_134 k_134_115 rfl (hf 4 (by unfold hm_it; rw [if_neg c_21, if_pos (Or.inr c_78), if_neg (show ¬ F (5 * cl + hm_bd c) < 0 by rw [hb1]; exact c_103)]; try rfl))
  · have c_21 := hm_if1 c_21
    refine r_aload_n k_134_24 rfl ?_
    refine r_get m_134 k_134_25 fl_8_22 rfl rfl ?_
    refine r_iload_n k_134_28 rfl ?_
    refine r_ialdn (k := 5 * cl) k_134_29 rfl (Or.inl rfl) rfl (by omega) (by decide) ?_
    refine r_iload_n k_134_30 rfl ?_
    refine r_bipush k_134_31 cb_65 ?_
    refine r_isub k_134_33 ?_
    refine r_ishr k_134_34 ?_
    refine r_iconst k_134_35 ci_1 ?_
    refine r_iand k_134_36 ?_
    refine r_iconst k_134_37 ci_1 ?_
    refine r_icmp_ne k_134_38 rfl (fun c_38 => ?_) (fun c_38 => ?_)
    · refine r_aload_n k_134_51 rfl ?_
      refine r_get m_134 k_134_52 fl_8_22 rfl rfl ?_
      refine r_iload_n k_134_55 rfl ?_
      refine r_dup2 k_134_56 rfl rfl ?_
      refine r_ialdn (k := 5 * cl) k_134_57 rfl (Or.inl rfl) rfl (by omega) (by decide) ?_
      refine r_iconst k_134_58 ci_1 ?_
      refine r_iload_n k_134_59 rfl ?_
      refine r_bipush k_134_60 cb_65 ?_
      refine r_isub k_134_62 ?_
      refine r_ishl k_134_63 ?_
      refine r_ior k_134_64 ?_
      refine r_iastn (k := 5 * cl) k_134_65 rfl rfl rfl (by omega) (by decide) ((wM_5 _).trans (by rw [hm_pa_5])) ?_
      refine r_goto k_134_66 rfl ?_
      refine r_aload_n k_134_249 rfl ?_
      refine r_dup k_134_250 rfl ?_
      refine r_get m_134 k_134_251 fl_8_132 rfl rfl ?_
      rw [hm_pa_g]
      refine r_iconst k_134_254 ci_1 ?_
      refine r_iadd k_134_255 ?_
      refine r_put m_134 k_134_256 fl_8_132 rfl (Nat.le_of_ble_eq_true rfl) rfl rfl ((wM_24 _).trans (by rw [hm_pa_24])) ?_
      refine r_iconst k_134_259 ci_0 ?_
      exact hm_T.ret m_134 k_134_260 rfl (hc _ (by unfold hm_it; rw [if_pos c_21, if_neg (show ¬ hm_has (F (5 * cl)) (c - nI 65) = true from fun z => c_38 (of_decide_eq_true z))]; try rfl))
    · have c_38 := Decidable.of_not_not c_38
      refine r_aload_n k_134_41 rfl ?_
      refine r_iconst k_134_42 ci_4 ?_
      refine r_aload_n k_134_43 rfl ?_
      refine r_get m_134 k_134_44 fl_8_132 rfl rfl ?_
      rw [hm_pa_g]
      refine r_callv3 m_134 k_134_47 cl_8_143 m_133 (by decide) rfl rfl (Nat.le_of_ble_eq_true rfl) (Nat.le_of_ble_eq_true rfl) rfl rfl ?_
      refine s_133 ?_
      exact hm_T.ret m_134 k_134_50 rfl (hf 4 (by unfold hm_it; rw [if_pos c_21, if_pos (show hm_has (F (5 * cl)) (c - nI 65) = true from decide_eq_true c_38)]; try rfl))
def hm_f0 : Nat → Nat → (Nat → Int32) → Nat → Int32
  | 0, _, F => F
  | k + 1, j, F => hm_f0 k (j + 1) (upd F j (if j % 5 = 1 ∨ j % 5 = 2 then -1 else nI 0))
set_option maxRecDepth 20000 in
theorem l_130f {d n s : Nat} {m : hm_M} {h : Nat → Option va_E} {Q : Option Value → hm_H → Prop} : ∀ (k j : Nat) (F : Nat → Int32), j + k = 20 → hm_T d 130 39 [.ref 61, .int (nI 20), .retAddr 0, .retAddr 0] [] (hm_hM (hm_uM m 5 (hm_f0 k j F)) h n s) Q → hm_T d 130 2 [.ref 61, .int (nI j), .retAddr 0, .retAddr 0] [] (hm_hM (hm_uM m 5 F) h n s) Q := by
  intro k
  induction k with
  | zero =>
    intro j F hj hK
    refine r_iload_n k_130_2 rfl ?_
    refine r_bipush k_130_3 cb_20 ?_
    refine r_icmp_ge k_130_5 rfl (fun c_5 => ?_) (fun z => absurd (nI_le (show 20 ≤ j by omega) (by omega)) z)
    rw [show j = 20 by omega]
    exact hK
  | succ k ih =>
    intro j F hj hK
    refine r_iload_n k_130_2 rfl ?_
    refine r_bipush k_130_3 cb_20 ?_
    refine r_icmp_ge k_130_5 rfl (fun z => absurd z (nI_ge (show j < 20 by omega) (by omega))) (fun c_5 => ?_)
    refine r_aload_n k_130_8 rfl ?_
    refine r_get m_130 k_130_9 fl_8_22 rfl rfl ?_
    refine r_iload_n k_130_12 rfl ?_
    refine r_iload_n k_130_13 rfl ?_
    refine r_iconst k_130_14 ci_5 ?_
    refine r_irem k_130_15 (by decide) ?_
    rw [nI_rem j 5 (by omega) (by decide) (by decide)]
    refine r_iconst k_130_16 ci_1 ?_
    refine r_icmp_eq k_130_17 rfl (fun c_17 => ?_) (fun c_17 => ?_)
    · refine r_iconst k_130_27 ci_m1 ?_
      refine r_goto k_130_28 rfl ?_
      refine r_iastn (k := j) k_130_32 rfl rfl rfl (by omega) (by decide) ((wM_5 _).trans (by rw [hm_uM2])) ?_
      refine r_iincn k_130_33 rfl (nI_inc j) rfl ?_
      refine r_goto k_130_36 rfl ?_
      refine ih (j + 1) _ (by omega) ?_
      rw [show hm_f0 (k + 1) j F = hm_f0 k (j + 1) (upd F j (if j % 5 = 1 ∨ j % 5 = 2 then -1 else nI 0)) from rfl, if_pos (Or.inl (hm_nIinj c_17 (by omega) (by omega)))] at hK
      exact hK
    · refine r_iload_n k_130_20 rfl ?_
      refine r_iconst k_130_21 ci_5 ?_
      refine r_irem k_130_22 (by decide) ?_
      rw [nI_rem j 5 (by omega) (by decide) (by decide)]
      refine r_iconst k_130_23 ci_2 ?_
      refine r_icmp_ne k_130_24 rfl (fun c_24 => ?_) (fun c_24 => ?_)
      · refine r_iconst k_130_31 ci_0 ?_
        refine r_iastn (k := j) k_130_32 rfl rfl rfl (by omega) (by decide) ((wM_5 _).trans (by rw [hm_uM2])) ?_
        refine r_iincn k_130_33 rfl (nI_inc j) rfl ?_
        refine r_goto k_130_36 rfl ?_
        refine ih (j + 1) _ (by omega) ?_
        rw [show hm_f0 (k + 1) j F = hm_f0 k (j + 1) (upd F j (if j % 5 = 1 ∨ j % 5 = 2 then -1 else nI 0)) from rfl, if_neg (fun z => z.elim (fun z => c_17 (by rw [z])) (fun z => c_24 (by rw [z])))] at hK
        exact hK
      · have c_24 := Decidable.of_not_not c_24
        refine r_iconst k_130_27 ci_m1 ?_
        refine r_goto k_130_28 rfl ?_
        refine r_iastn (k := j) k_130_32 rfl rfl rfl (by omega) (by decide) ((wM_5 _).trans (by rw [hm_uM2])) ?_
        refine r_iincn k_130_33 rfl (nI_inc j) rfl ?_
        refine r_goto k_130_36 rfl ?_
        refine ih (j + 1) _ (by omega) ?_
        rw [show hm_f0 (k + 1) j F = hm_f0 k (j + 1) (upd F j (if j % 5 = 1 ∨ j % 5 = 2 then -1 else nI 0)) from rfl, if_pos (Or.inr (hm_nIinj c_24 (by omega) (by omega)))] at hK
        exact hK
theorem hm_nf_le {T : Nat → Int32} {N a : Nat} (h : a < N) : a + hm_nf T N a ≤ N := by
  have hf : ∀ i, hm_fig T N i = true → i < N := fun i hi => by
    rcases Nat.lt_or_ge i N with h1 | h1
    · exact h1
    · rw [hm_figo h1] at hi
      cases hi
  unfold hm_nf
  by_cases h0 : hm_fig T N a = true
  · rw [if_pos h0]
    by_cases h1 : hm_fig T N (a + 1) = true
    · rw [if_pos h1]
      have := hf _ h1
      by_cases h2 : hm_fig T N (a + 2) = true
      · rw [if_pos h2]
        have := hf _ h2
        by_cases h3 : hm_fig T N (a + 3) = true
        · rw [if_pos h3]
          have := hf _ h3
          omega
        · rw [if_neg h3]
          omega
      · rw [if_neg h2]
        omega
    · rw [if_neg h1]
      omega
  · rw [if_neg h0]
    omega
set_option maxRecDepth 20000 in
theorem l_130 {d n s : Nat} {m : hm_M} {h : Nat → Option va_E} {Q : Option Value → hm_H → Prop} {N : Nat} (hN : m 7 0 = nI N) (hN1 : N ≤ 100) (hT0 : ∀ i, i < N → 0 ≤ m 6 i) {R : hm_PR} (hQ0 : R.1 = nI 0 → ∀ a2, Q (some (.int (nI 0))) (hm_hM (hm_pa m a2 R.2.2) h n s)) (hQ1 : ∀ f, 0 < f → f < 6 → R.1 = nI f → ∀ a2 F2, Q (some (.int (nI f))) (hm_hM (hm_uM (hm_pa m a2 F2) 8 (fun _ => R.2.1)) h n s)) : ∀ r : Nat, (∀ (a : Nat) (F : Nat → Int32) (seen : Int32) (bd cl : Nat) (v2 v3 : Value), v2.category = 1 → a ≤ N → N - a = r → hm_A (m 6) N a 0 cl bd seen F = R → hm_T (d + 3) 130 46 [.ref 61, .int seen, v2, v3] [] (hm_hM (hm_pa m a F) h n s) Q) ∧ (∀ (a : Nat) (F : Nat → Int32) (seen : Int32) (bd cl : Nat) (v3 : Value), cl < 4 → a ≤ N → N - a = r → hm_A (m 6) N a 2 cl bd seen F = R → hm_T (d + 3) 130 139 [.ref 61, .int seen, .int (nI cl), v3] [] (hm_hM (hm_pa m a F) h n s) Q) := by
  intro r
  induction r using Nat.strongRecOn with
  | ind r ih =>
    constructor
    · intro a F seen bd cl v2 v3 hv2 ha hr hR
      refine r_aload_n k_130_46 rfl ?_
      refine r_callv1 m_130 k_130_47 cl_8_135 m_131 (by decide) rfl rfl (Nat.le_of_ble_eq_true rfl) (Nat.le_of_ble_eq_true rfl) rfl rfl ?_
      refine s_131 hN hN1 ha ?_
      rw [hm_A_skp] at hR
      have hge := hm_skp_ge (T := m 6) (N := N) (a := a)
      have hle := hm_skp_le (T := m 6) ha
      have hbl := hm_skp_b (T := m 6) (N := N) (a := a)
      generalize hm_skp (m 6) N a = b at *
      refine r_if_lt k_130_50 rfl (fun c_50 => ?_) (fun c_50 => ?_)
      · refine r_iconst k_130_180 ci_0 ?_
        exact hm_T.ret m_130 k_130_181 rfl (by
          have hbN : ¬ b < N := fun h => by
            rw [show hm_c (m 6) N b = m 6 b from if_pos h] at c_50
            exact absurd (hT0 b h) (Int32.not_le.mpr c_50)
          rw [hm_A_eq, hm_ab_end (by omega), if_pos rfl] at hR
          have e := hQ0 (by rw [← hR]) b
          rw [← hR] at e
          exact e)
      · have hbN : b < N := by
          rcases Nat.lt_or_ge b N with h | h
          · exact h
          · rw [show hm_c (m 6) N b = -1 from if_neg (by omega)] at c_50
            exact absurd c_50 (by decide)
        have hcb : hm_c (m 6) N b = m 6 b := if_pos hbN
        rw [hm_A_eq] at hR
        unfold hm_ab at hR
        rw [if_pos hbN, if_neg (fun z => hbl ⟨hbN, z⟩), if_pos rfl] at hR
        refine r_aload_n k_130_53 rfl ?_
        refine r_callv1 m_130 k_130_54 cl_8_135 m_131 (by decide) rfl rfl (Nat.le_of_ble_eq_true rfl) (Nat.le_of_ble_eq_true rfl) rfl rfl ?_
        refine s_131 hN hN1 hle ?_
        rw [hm_skp_n hbl]
        refine r_calls1 m_130 k_130_57 cl_8_146 m_132 (by decide) rfl rfl (Nat.le_of_ble_eq_true rfl) (Nat.le_of_ble_eq_true rfl) ?_
        refine s_132 ?_
        refine r_istore_n k_130_60 rfl ?_
        refine r_iload_n k_130_61 rfl ?_
        refine r_if_ge k_130_62 rfl (fun c_62 => ?_) (fun c_62 => ?_)
        · rw [hcb] at c_62
          obtain ⟨kk, hk4, hke⟩ := hm_so_lt (Int32.not_lt.mpr c_62)
          rw [if_neg (Int32.not_lt.mpr c_62)] at hR
          rw [hcb, hke]
          rw [hke] at hR
          refine r_iload_n k_130_75 rfl ?_
          refine r_iload_n k_130_76 rfl ?_
          refine r_ishr k_130_77 ?_
          refine r_iconst k_130_78 ci_1 ?_
          refine r_iand k_130_79 ?_
          refine r_iconst k_130_80 ci_1 ?_
          refine r_icmp_ne k_130_81 rfl (fun c_81 => ?_) (fun c_81 => ?_)
          · rw [if_neg (show ¬ hm_has seen (nI kk) = true from fun z => c_81 (of_decide_eq_true z)), nI_clamp (by omega)] at hR
            refine r_iload_n k_130_94 rfl ?_
            refine r_iconst k_130_95 ci_1 ?_
            refine r_iload_n k_130_96 rfl ?_
            refine r_ishl k_130_97 ?_
            refine r_ior k_130_98 ?_
            refine r_istore_n k_130_99 rfl ?_
            refine r_aload_n k_130_100 rfl ?_
            refine r_dup k_130_101 rfl ?_
            refine r_get m_130 k_130_102 fl_8_132 rfl rfl ?_
            rw [hm_pa_g]
            refine r_iconst k_130_105 ci_1 ?_
            refine r_iadd k_130_106 ?_
            refine r_put m_130 k_130_107 fl_8_132 rfl (Nat.le_of_ble_eq_true rfl) rfl rfl ((wM_24 _).trans (by rw [hm_pa_24])) ?_
            refine r_aload_n k_130_110 rfl ?_
            refine r_callv1 m_130 k_130_111 cl_8_135 m_131 (by decide) rfl rfl (Nat.le_of_ble_eq_true rfl) (Nat.le_of_ble_eq_true rfl) rfl rfl ?_
            refine s_131 hN hN1 (show b + 1 ≤ N by omega) ?_
            rw [hm_A_skp] at hR
            have hge2 := hm_skp_ge (T := m 6) (N := N) (a := b + 1)
            have hle2 := hm_skp_le (T := m 6) (show b + 1 ≤ N by omega)
            have hbl2 := hm_skp_b (T := m 6) (N := N) (a := b + 1)
            generalize hm_skp (m 6) N (b + 1) = b2 at *
            refine r_bipush k_130_114 cb_58 ?_
            refine r_icmp_eq k_130_116 rfl (fun c_116 => ?_) (fun c_116 => ?_)
            · have hb2N : b2 < N := by
                rcases Nat.lt_or_ge b2 N with h | h
                · exact h
                · rw [show hm_c (m 6) N b2 = -1 from if_neg (by omega)] at c_116
                  exact absurd c_116 (by decide)
              rw [hm_A_eq] at hR
              unfold hm_ab at hR
              rw [show hm_c (m 6) N b2 = m 6 b2 from if_pos hb2N] at c_116
              rw [if_pos hb2N, if_neg (fun z => hbl2 ⟨hb2N, z⟩), if_neg (by decide), if_pos rfl, if_pos c_116] at hR
              refine r_aload_n k_130_129 rfl ?_
              refine r_dup k_130_130 rfl ?_
              refine r_get m_130 k_130_131 fl_8_132 rfl rfl ?_
              rw [hm_pa_g]
              refine r_iconst k_130_134 ci_1 ?_
              refine r_iadd k_130_135 ?_
              refine r_put m_130 k_130_136 fl_8_132 rfl (Nat.le_of_ble_eq_true rfl) rfl rfl ((wM_24 _).trans (by rw [hm_pa_24])) ?_
              exact (ih (N - (b2 + 1)) (by omega)).2 (b2 + 1) F _ bd kk v3 hk4 (by omega) rfl hR
            · have hR2 : (nI 1, nI b2, F) = R := by
                rw [hm_A_eq] at hR
                rcases Nat.lt_or_ge b2 N with h | h
                · unfold hm_ab at hR
                  rw [show hm_c (m 6) N b2 = m 6 b2 from if_pos h] at c_116
                  rw [if_pos h, if_neg (fun z => hbl2 ⟨h, z⟩), if_neg (by decide), if_pos rfl, if_neg c_116] at hR
                  exact hR
                · rw [hm_ab_end h, if_neg (by decide), show N = b2 by omega] at hR
                  exact hR
              replace hR := hR2
              refine r_aload_n k_130_119 rfl ?_
              refine r_iconst k_130_120 ci_1 ?_
              refine r_aload_n k_130_121 rfl ?_
              refine r_get m_130 k_130_122 fl_8_132 rfl rfl ?_
              rw [hm_pa_g]
              refine r_callv3 m_130 k_130_125 cl_8_143 m_133 (by decide) rfl rfl (Nat.le_of_ble_eq_true rfl) (Nat.le_of_ble_eq_true rfl) rfl rfl ?_
              refine s_133 ?_
              exact hm_T.ret m_130 k_130_128 rfl (by subst hR; exact hQ1 1 (by decide) (by decide) rfl _ F)
          · have c_81 := Decidable.of_not_not c_81
            rw [if_pos (show hm_has seen (nI kk) = true from decide_eq_true c_81)] at hR
            refine r_aload_n k_130_84 rfl ?_
            refine r_iconst k_130_85 ci_3 ?_
            refine r_aload_n k_130_86 rfl ?_
            refine r_get m_130 k_130_87 fl_8_132 rfl rfl ?_
            rw [hm_pa_g]
            refine r_callv3 m_130 k_130_90 cl_8_143 m_133 (by decide) rfl rfl (Nat.le_of_ble_eq_true rfl) (Nat.le_of_ble_eq_true rfl) rfl rfl ?_
            refine s_133 ?_
            exact hm_T.ret m_130 k_130_93 rfl (by subst hR; exact hQ1 3 (by decide) (by decide) rfl _ F)
        · rw [hcb] at c_62
          rw [if_pos (Int32.not_le.mp c_62)] at hR
          refine r_aload_n k_130_65 rfl ?_
          refine r_iconst k_130_66 ci_1 ?_
          refine r_aload_n k_130_67 rfl ?_
          refine r_get m_130 k_130_68 fl_8_132 rfl rfl ?_
          rw [hm_pa_g]
          refine r_callv3 m_130 k_130_71 cl_8_143 m_133 (by decide) rfl rfl (Nat.le_of_ble_eq_true rfl) (Nat.le_of_ble_eq_true rfl) rfl rfl ?_
          refine s_133 ?_
          exact hm_T.ret m_130 k_130_74 rfl (by subst hR; exact hQ1 1 (by decide) (by decide) rfl _ F)
    · intro a F seen bd cl v3 hcl ha hr hR
      refine r_aload_n k_130_139 rfl ?_
      refine r_callv1 m_130 k_130_140 cl_8_135 m_131 (by decide) rfl rfl (Nat.le_of_ble_eq_true rfl) (Nat.le_of_ble_eq_true rfl) rfl rfl ?_
      refine s_131 hN hN1 ha ?_
      rw [hm_A_skp] at hR
      have hge := hm_skp_ge (T := m 6) (N := N) (a := a)
      have hle := hm_skp_le (T := m 6) ha
      have hbl := hm_skp_b (T := m 6) (N := N) (a := a)
      generalize hm_skp (m 6) N a = b at *
      refine r_bipush k_130_143 cb_59 ?_
      refine r_icmp_eq k_130_145 rfl (fun c_145 => ?_) (fun c_145 => ?_)
      · have hbN : b < N := by
          rcases Nat.lt_or_ge b N with h | h
          · exact h
          · rw [show hm_c (m 6) N b = -1 from if_neg (by omega)] at c_145
            exact absurd c_145 (by decide)
        have hcb : hm_c (m 6) N b = m 6 b := if_pos hbN
        rw [hcb] at c_145
        rw [hm_A_eq] at hR
        unfold hm_ab at hR
        rw [if_pos hbN, if_neg (fun z => hbl ⟨hbN, z⟩), if_neg (by decide), if_neg (by decide), if_pos rfl, if_pos c_145] at hR
        refine r_aload_n k_130_167 rfl ?_
        refine r_dup k_130_168 rfl ?_
        refine r_get m_130 k_130_169 fl_8_132 rfl rfl ?_
        rw [hm_pa_g]
        refine r_iconst k_130_172 ci_1 ?_
        refine r_iadd k_130_173 ?_
        refine r_put m_130 k_130_174 fl_8_132 rfl (Nat.le_of_ble_eq_true rfl) rfl rfl ((wM_24 _).trans (by rw [hm_pa_24])) ?_
        refine r_goto k_130_177 rfl ?_
        exact (ih (N - (b + 1)) (by omega)).1 (b + 1) F _ bd cl (.int (nI cl)) v3 rfl (by omega) rfl hR
      · refine r_aload_n k_130_148 rfl ?_
        refine r_iload_n k_130_149 rfl ?_
        refine r_aload_n k_130_150 rfl ?_
        refine r_callv1 m_130 k_130_151 cl_8_135 m_131 (by decide) rfl rfl (Nat.le_of_ble_eq_true rfl) (Nat.le_of_ble_eq_true rfl) rfl rfl ?_
        refine s_131 hN hN1 hle ?_
        rw [hm_skp_n hbl]
        refine r_callv3 m_130 k_130_154 cl_8_156 m_134 (by decide) rfl rfl (Nat.le_of_ble_eq_true rfl) (Nat.le_of_ble_eq_true rfl) rfl rfl ?_
        have hac : b < N ∨ hm_c (m 6) N b = -1 := by
          rcases Nat.lt_or_ge b N with h | h
          · exact Or.inl h
          · exact Or.inr (if_neg (by omega))
        have hR3 : ∀ x, hm_it (hm_c (m 6) N b) cl F = x → (match x with | .inl f => (nI f, nI b, F) | .inr (.inl F2) => hm_A (m 6) N (b + 1) 2 cl bd seen F2 | .inr (.inr bb) => hm_A (m 6) N (b + 1) 3 cl bb seen F) = R := by
          intro x hx
          rw [hm_A_eq] at hR
          rcases Nat.lt_or_ge b N with h | h
          · unfold hm_ab at hR
            rw [show hm_c (m 6) N b = m 6 b from if_pos h] at c_145 hx
            rw [if_pos h, if_neg (fun z => hbl ⟨h, z⟩), if_neg (by decide), if_neg (by decide), if_pos rfl, if_neg c_145, hx] at hR
            exact hR
          · rw [hm_ab_end h, if_neg (by decide), show N = b by omega] at hR
            rw [show hm_c (m 6) N b = -1 from if_neg (by omega), hm_it_m] at hx
            subst hx
            exact hR
        have hnb : ∀ bb, hm_it (hm_c (m 6) N b) cl F = .inr bb → b < N := fun bb hbb => by
          rcases hac with h | h
          · exact h
          · rw [h, hm_it_m] at hbb
            cases hbb
        have hnum : ∀ bb, hm_it (hm_c (m 6) N b) cl F = .inr (.inr bb) → b < N ∧ hm_A (m 6) N (hm_skp (m 6) N (b + 1)) 3 cl bb seen F = R := fun bb hbb => ⟨hnb _ hbb, by rw [← hm_A_skp]; exact hR3 _ hbb⟩
        clear hR
        have hge3 := hm_skp_ge (T := m 6) (N := N) (a := b + 1)
        have hle3 : b < N → hm_skp (m 6) N (b + 1) ≤ N := fun h => hm_skp_le (T := m 6) (show b + 1 ≤ N by omega)
        have hbl3 := hm_skp_b (T := m 6) (N := N) (a := b + 1)
        refine s_134 hN hN1 hac hcl (fun f hi => ?_) (fun F2 hi => ?_) (fun bb hi h3 => ?_) (fun bb hi h3 a2 => ?_) (fun bb hi kf h3 h4 h5 => ?_)
        · have hR : (nI f, nI b, F) = R := hR3 _ hi
          have hff := hm_it_f hi
          refine r_istore_n k_130_157 rfl ?_
          refine r_iload_n k_130_158 rfl ?_
          refine r_if_le k_130_159 rfl (fun z => absurd z (nI_ge (a := 0) (b := f) (by omega) (by omega))) (fun c_159 => ?_)
          refine r_iload_n k_130_162 rfl ?_
          exact hm_T.ret m_130 k_130_163 rfl (by subst hR; exact hQ1 f (by omega) (by omega) rfl _ F)
        · have hbN := hnb _ hi
          have hR : hm_A (m 6) N (b + 1) 2 cl bd seen F2 = R := hR3 _ hi
          refine r_istore_n k_130_157 rfl ?_
          refine r_iload_n k_130_158 rfl ?_
          refine r_if_le k_130_159 rfl (fun c_159 => ?_) (fun z => absurd (by decide) z)
          refine r_goto k_130_164 rfl ?_
          exact (ih (N - (b + 1)) (by omega)).2 (b + 1) F2 _ _ cl _ hcl (by omega) rfl hR
        · obtain ⟨hbN, hR⟩ := hnum bb hi
          have hR : (nI 1, nI (hm_skp (m 6) N (b + 1)), F) = R := by
            rw [hm_A_eq] at hR
            rcases Nat.lt_or_ge (hm_skp (m 6) N (b + 1)) N with h | h
            · unfold hm_ab at hR
              rw [if_pos h, if_neg (fun z => hbl3 ⟨h, z⟩), if_neg (by decide), if_neg (by decide), if_neg (by decide), if_pos h3] at hR
              exact hR
            · have e := hle3 hbN
              rw [hm_ab_end h, if_neg (by decide), show nI N = nI (hm_skp (m 6) N (b + 1)) by rw [show hm_skp (m 6) N (b + 1) = N by omega]] at hR
              exact hR
          refine r_istore_n k_130_157 rfl ?_
          refine r_iload_n k_130_158 rfl ?_
          refine r_if_le k_130_159 rfl (fun z => absurd z (by decide)) (fun c_159 => ?_)
          refine r_iload_n k_130_162 rfl ?_
          exact hm_T.ret m_130 k_130_163 rfl (by subst hR; exact hQ1 1 (by decide) (by decide) rfl _ F)
        · obtain ⟨hbN, hR⟩ := hnum bb hi
          have hR : (nI 2, nI (hm_skp (m 6) N (b + 1)), F) = R := by
            rw [hm_A_eq] at hR
            rcases Nat.lt_or_ge (hm_skp (m 6) N (b + 1)) N with h | h
            · unfold hm_ab at hR
              rw [if_pos h, if_neg (fun z => hbl3 ⟨h, z⟩), if_neg (by decide), if_neg (by decide), if_neg (by decide), if_neg (by omega), if_pos h3] at hR
              exact hR
            · unfold hm_nf at h3
              rw [if_neg (by rw [hm_figo h]; decide)] at h3
              cases h3
          refine r_istore_n k_130_157 rfl ?_
          refine r_iload_n k_130_158 rfl ?_
          refine r_if_le k_130_159 rfl (fun z => absurd z (by decide)) (fun c_159 => ?_)
          refine r_iload_n k_130_162 rfl ?_
          exact hm_T.ret m_130 k_130_163 rfl (by subst hR; exact hQ1 2 (by decide) (by decide) rfl a2 F)
        · obtain ⟨hbN, hR⟩ := hnum bb hi
          have hlt : hm_skp (m 6) N (b + 1) < N := by
            rcases Nat.lt_or_ge (hm_skp (m 6) N (b + 1)) N with h | h
            · exact h
            · unfold hm_nf at h3
              rw [if_neg (by rw [hm_figo h]; decide)] at h3
              omega
          have hkl := hm_nf_le (T := m 6) (N := N) (a := hm_skp (m 6) N (b + 1)) hlt
          generalize hm_skp (m 6) N (b + 1) = b3 at *
          rw [hm_A_eq] at hR
          unfold hm_ab at hR
          rw [if_pos hlt, if_neg (fun z => hbl3 ⟨hlt, z⟩), if_neg (by decide), if_neg (by decide), if_neg (by decide), if_neg (by omega), if_neg (by omega), h3] at hR
          refine r_istore_n k_130_157 rfl ?_
          refine r_iload_n k_130_158 rfl ?_
          refine r_if_le k_130_159 rfl (fun c_159 => ?_) (fun z => absurd (by decide) z)
          refine r_goto k_130_164 rfl ?_
          exact (ih (N - (b3 + kf)) (by omega)).2 (b3 + kf) _ _ _ cl _ hcl (by omega) rfl hR
set_option maxRecDepth 20000 in
theorem s_130 {d n s : Nat} {m : hm_M} {h : Nat → Option va_E} {Q : Option Value → hm_H → Prop} {N : Nat} (hN : m 7 0 = nI N) (hN1 : N ≤ 100) (hT0 : ∀ i, i < N → 0 ≤ m 6 i) {R : hm_PR} (hQ0 : R.1 = nI 0 → ∀ a2, Q (some (.int (nI 0))) (hm_hM (hm_pa m a2 R.2.2) h n s)) (hQ1 : ∀ f, 0 < f → f < 6 → R.1 = nI f → ∀ a2 F2, Q (some (.int (nI f))) (hm_hM (hm_uM (hm_pa m a2 F2) 8 (fun _ => R.2.1)) h n s)) (hR : hm_A (m 6) N 0 0 0 0 (nI 0) (hm_f0 20 0 (m 5)) = R) : hm_T (d + 3) 130 0 [.ref 61, .retAddr 0, .retAddr 0, .retAddr 0] [] (hm_hM m h n s) Q := by
  refine r_iconst k_130_0 ci_0 ?_
  refine r_istore_n k_130_1 rfl ?_
  rw [show hm_hM m h n s = hm_hM (hm_uM m 5 (m 5)) h n s by rw [hm_uMs]]
  refine l_130f 20 0 (m 5) (by omega) ?_
  refine r_aload_n k_130_39 rfl ?_
  refine r_iconst k_130_40 ci_0 ?_
  refine r_put m_130 k_130_41 fl_8_132 rfl (Nat.le_of_ble_eq_true rfl) rfl rfl ((wM_24 _).trans (by rw [show hm_uM (hm_uM m 5 (hm_f0 20 0 (m 5))) 24 (fun _ => nI 0) = hm_pa m 0 (hm_f0 20 0 (m 5)) from hm_uMc (by decide)])) ?_
  refine r_iconst k_130_44 ci_0 ?_
  refine r_istore_n k_130_45 rfl ?_
  exact (l_130 hN hN1 hT0 hQ0 hQ1 (N - 0)).1 0 _ _ 0 0 _ _ rfl (by omega) rfl hR
