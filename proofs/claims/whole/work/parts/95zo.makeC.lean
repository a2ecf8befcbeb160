theorem pT {R : List va_E} {h : Nat → Option va_E} {n s m : Nat} {e : va_E} (hN : n + 4 = 61 + R.length) : hm_push (hm_seg 61 R h, n, s) e m = (hm_seg 61 (R ++ [e]) h, n + 1, s + m) := by
  refine Prod.ext (funext fun j => ?_) rfl
  show (if j = n + 4 then some e else if 61 ≤ j ∧ j < 61 + R.length then R[j - 61]? else h j) = (if 61 ≤ j ∧ j < 61 + (R ++ [e]).length then (R ++ [e])[j - 61]? else h j)
  rw [List.length_append]
  have e1 : [e].length = 1 := rfl
  by_cases h1 : j = n + 4
  · rw [if_pos h1, if_pos (by omega), List.getElem?_append_right (by omega), show j - 61 - R.length = 0 by omega]
    rfl
  · rw [if_neg h1]
    by_cases h2 : 61 ≤ j ∧ j < 61 + R.length
    · rw [if_pos h2, if_pos (by omega), List.getElem?_append_left (by omega)]
    · rw [if_neg h2, if_neg (by omega)]
theorem hm_df_8 : hm_df 8 = [.null, .null, .int 0, .null, .null, .null, .null, .int 0, .int 0, .int 0, .null, .null, .null, .null, .null, .null, .null, .int 0, .int 0, .null, .null, .null, .null, .int 0, .int 0, .int 0, .null, .null, .null, .null, .null] := by rfl
def hm_m1 : hm_M := fun j _ => if j = 8 then -1 else 0
def hm_m0 : hm_M := hm_uM (hm_uM (hm_uM hm_m1 0 (upd (upd (upd (fun _ => 0) 0 (nI 3)) 1 (nI 1)) 2 (nI 4))) 1 (upd (upd (upd (fun _ => 0) 0 (nI 1023)) 1 (nI 1023)) 2 (nI 1023))) 4 (hm_f0 80 0 (fun _ => 0))
set_option maxRecDepth 20000 in
theorem l_117 {d n s : Nat} {m : hm_M} {h : Nat → Option va_E} {Q : Option Value → hm_H → Prop} : ∀ (k j : Nat) (F : Nat → Int32), j + k = 80 → Q none (hm_hM (hm_uM m 4 (hm_f0 k j F)) h n s) → hm_T d 117 229 [.ref 61, .int (nI j)] [] (hm_hM (hm_uM m 4 F) h n s) Q := by
  intro k
  induction k with
  | zero =>
    intro j F hj hQ
    refine r_iload_n k_117_229 rfl ?_
    refine r_bipush k_117_230 cb_80 ?_
    refine r_icmp_ge k_117_232 rfl (fun c_232 => ?_) (fun z => absurd (nI_le (show 80 ≤ j by omega) (by omega)) z)
    exact hm_T.ret m_117 k_117_266 rfl hQ
  | succ k ih =>
    intro j F hj hQ
    refine r_iload_n k_117_229 rfl ?_
    refine r_bipush k_117_230 cb_80 ?_
    refine r_icmp_ge k_117_232 rfl (fun z => absurd z (nI_ge (show j < 80 by omega) (by omega))) (fun c_232 => ?_)
    refine r_aload_n k_117_235 rfl ?_
    refine r_get m_117 k_117_236 fl_8_19 rfl rfl ?_
    refine r_iload_n k_117_239 rfl ?_
    refine r_iload_n k_117_240 rfl ?_
    refine r_iconst k_117_241 ci_5 ?_
    refine r_irem k_117_242 (by decide) ?_
    rw [nI_rem j 5 (by omega) (by decide) (by decide)]
    refine r_iconst k_117_243 ci_1 ?_
    refine r_icmp_eq k_117_244 rfl (fun c_244 => ?_) (fun c_244 => ?_)
    · refine r_iconst k_117_254 ci_m1 ?_
      refine r_goto k_117_255 rfl ?_
      refine r_iastn (k := j) k_117_259 rfl rfl rfl (by omega) (by decide) ((wM_4 _).trans (by rw [hm_uM2])) ?_
      refine r_iincn k_117_260 rfl (nI_inc j) rfl ?_
      refine r_goto k_117_263 rfl ?_
      refine ih (j + 1) _ (by omega) ?_
      rw [show hm_f0 (k + 1) j F = hm_f0 k (j + 1) (upd F j (if j % 5 = 1 ∨ j % 5 = 2 then -1 else nI 0)) from rfl, if_pos (Or.inl (hm_nIinj c_244 (by omega) (by omega)))] at hQ
      exact hQ
    · refine r_iload_n k_117_247 rfl ?_
      refine r_iconst k_117_248 ci_5 ?_
      refine r_irem k_117_249 (by decide) ?_
      rw [nI_rem j 5 (by omega) (by decide) (by decide)]
      refine r_iconst k_117_250 ci_2 ?_
      refine r_icmp_ne k_117_251 rfl (fun c_251 => ?_) (fun c_251 => ?_)
      · refine r_iconst k_117_258 ci_0 ?_
        refine r_iastn (k := j) k_117_259 rfl rfl rfl (by omega) (by decide) ((wM_4 _).trans (by rw [hm_uM2])) ?_
        refine r_iincn k_117_260 rfl (nI_inc j) rfl ?_
        refine r_goto k_117_263 rfl ?_
        refine ih (j + 1) _ (by omega) ?_
        rw [show hm_f0 (k + 1) j F = hm_f0 k (j + 1) (upd F j (if j % 5 = 1 ∨ j % 5 = 2 then -1 else nI 0)) from rfl, if_neg (fun z => z.elim (fun z => c_244 (by rw [z])) (fun z => c_251 (by rw [z])))] at hQ
        exact hQ
      · have c_251 := Decidable.of_not_not c_251
        refine r_iconst k_117_254 ci_m1 ?_
        refine r_goto k_117_255 rfl ?_
        refine r_iastn (k := j) k_117_259 rfl rfl rfl (by omega) (by decide) ((wM_4 _).trans (by rw [hm_uM2])) ?_
        refine r_iincn k_117_260 rfl (nI_inc j) rfl ?_
        refine r_goto k_117_263 rfl ?_
        refine ih (j + 1) _ (by omega) ?_
        rw [show hm_f0 (k + 1) j F = hm_f0 k (j + 1) (upd F j (if j % 5 = 1 ∨ j % 5 = 2 then -1 else nI 0)) from rfl, if_pos (Or.inr (hm_nIinj c_251 (by omega) (by omega)))] at hQ
        exact hQ
set_option maxRecDepth 40000 in
set_option maxHeartbeats 4000000 in
theorem s_117 {d s : Nat} {h : Nat → Option va_E} {Q : Option Value → hm_H → Prop} (hQ : Q none (hm_hM hm_m0 h 80 (s + 7944))) : hm_T (d + 1) 117 0 [.ref 61, .retAddr 0] [] (hm_seg 61 [.inr (8, [.null, .null, .int 0, .null, .null, .null, .null, .int 0, .int 0, .int 0, .null, .null, .null, .null, .null, .null, .null, .int 0, .int 0, .null, .null, .null, .null, .int 0, .int 0, .int 0, .null, .null, .null, .null, .null])] h, 58, s) Q := by
  refine r_aload_n k_117_0 rfl ?_
  refine r_obj m_117 k_117_1 cl_8_1 (Nat.le_of_ble_eq_true rfl) ?_
  refine r_aload_n k_117_4 rfl ?_
  refine r_iconst k_117_5 ci_3 ?_
  refine r_newa_int (N := 3) k_117_6 (by decide) (nI_clamp (by decide)) (by decide) (pT rfl) ?_
  refine r_put m_117 k_117_8 fl_8_7 rfl (Nat.le_of_ble_eq_true rfl) rfl rfl (hm_seg_set (k := 0) (Nat.le_of_ble_eq_true rfl) rfl rfl) ?_
  show hm_T _ 117 _ _ _ (hm_seg 61 [.inr (8, [.ref 62, .null, .int 0, .null, .null, .null, .null, .int 0, .int 0, .int 0, .null, .null, .null, .null, .null, .null, .null, .int 0, .int 0, .null, .null, .null, .null, .int 0, .int 0, .int 0, .null, .null, .null, .null, .null]), .inl (0, 3, .inl (fun _ => 0))] h, 59, _) _
  refine r_aload_n k_117_11 rfl ?_
  refine r_iconst k_117_12 ci_3 ?_
  refine r_newa_int (N := 3) k_117_13 (by decide) (nI_clamp (by decide)) (by decide) (pT rfl) ?_
  refine r_put m_117 k_117_15 fl_8_13 rfl (Nat.le_of_ble_eq_true rfl) rfl rfl (hm_seg_set (k := 0) (Nat.le_of_ble_eq_true rfl) rfl rfl) ?_
  show hm_T _ 117 _ _ _ (hm_seg 61 [.inr (8, [.ref 62, .ref 63, .int 0, .null, .null, .null, .null, .int 0, .int 0, .int 0, .null, .null, .null, .null, .null, .null, .null, .int 0, .int 0, .null, .null, .null, .null, .int 0, .int 0, .int 0, .null, .null, .null, .null, .null]), .inl (0, 3, .inl (fun _ => 0)), .inl (0, 3, .inl (fun _ => 0))] h, 60, _) _
  refine r_aload_n k_117_18 rfl ?_
  refine r_bipush k_117_19 cb_12 ?_
  refine r_newa_int (N := 12) k_117_21 (by decide) (nI_clamp (by decide)) (by decide) (pT rfl) ?_
  refine r_put m_117 k_117_23 fl_8_16 rfl (Nat.le_of_ble_eq_true rfl) rfl rfl (hm_seg_set (k := 0) (Nat.le_of_ble_eq_true rfl) rfl rfl) ?_
  show hm_T _ 117 _ _ _ (hm_seg 61 [.inr (8, [.ref 62, .ref 63, .int 0, .ref 64, .null, .null, .null, .int 0, .int 0, .int 0, .null, .null, .null, .null, .null, .null, .null, .int 0, .int 0, .null, .null, .null, .null, .int 0, .int 0, .int 0, .null, .null, .null, .null, .null]), .inl (0, 3, .inl (fun _ => 0)), .inl (0, 3, .inl (fun _ => 0)), .inl (0, 12, .inl (fun _ => 0))] h, 61, _) _
  refine r_aload_n k_117_26 rfl ?_
  refine r_bipush k_117_27 cb_80 ?_
  refine r_newa_int (N := 80) k_117_29 (by decide) (nI_clamp (by decide)) (by decide) (pT rfl) ?_
  refine r_put m_117 k_117_31 fl_8_19 rfl (Nat.le_of_ble_eq_true rfl) rfl rfl (hm_seg_set (k := 0) (Nat.le_of_ble_eq_true rfl) rfl rfl) ?_
  show hm_T _ 117 _ _ _ (hm_seg 61 [.inr (8, [.ref 62, .ref 63, .int 0, .ref 64, .ref 65, .null, .null, .int 0, .int 0, .int 0, .null, .null, .null, .null, .null, .null, .null, .int 0, .int 0, .null, .null, .null, .null, .int 0, .int 0, .int 0, .null, .null, .null, .null, .null]), .inl (0, 3, .inl (fun _ => 0)), .inl (0, 3, .inl (fun _ => 0)), .inl (0, 12, .inl (fun _ => 0)), .inl (0, 80, .inl (fun _ => 0))] h, 62, _) _
  refine r_aload_n k_117_34 rfl ?_
  refine r_bipush k_117_35 cb_20 ?_
  refine r_newa_int (N := 20) k_117_37 (by decide) (nI_clamp (by decide)) (by decide) (pT rfl) ?_
  refine r_put m_117 k_117_39 fl_8_22 rfl (Nat.le_of_ble_eq_true rfl) rfl rfl (hm_seg_set (k := 0) (Nat.le_of_ble_eq_true rfl) rfl rfl) ?_
  show hm_T _ 117 _ _ _ (hm_seg 61 [.inr (8, [.ref 62, .ref 63, .int 0, .ref 64, .ref 65, .ref 66, .null, .int 0, .int 0, .int 0, .null, .null, .null, .null, .null, .null, .null, .int 0, .int 0, .null, .null, .null, .null, .int 0, .int 0, .int 0, .null, .null, .null, .null, .null]), .inl (0, 3, .inl (fun _ => 0)), .inl (0, 3, .inl (fun _ => 0)), .inl (0, 12, .inl (fun _ => 0)), .inl (0, 80, .inl (fun _ => 0)), .inl (0, 20, .inl (fun _ => 0))] h, 63, _) _
  refine r_aload_n k_117_42 rfl ?_
  refine r_bipush k_117_43 cb_100 ?_
  refine r_newa_int (N := 100) k_117_45 (by decide) (nI_clamp (by decide)) (by decide) (pT rfl) ?_
  refine r_put m_117 k_117_47 fl_8_25 rfl (Nat.le_of_ble_eq_true rfl) rfl rfl (hm_seg_set (k := 0) (Nat.le_of_ble_eq_true rfl) rfl rfl) ?_
  show hm_T _ 117 _ _ _ (hm_seg 61 [.inr (8, [.ref 62, .ref 63, .int 0, .ref 64, .ref 65, .ref 66, .ref 67, .int 0, .int 0, .int 0, .null, .null, .null, .null, .null, .null, .null, .int 0, .int 0, .null, .null, .null, .null, .int 0, .int 0, .int 0, .null, .null, .null, .null, .null]), .inl (0, 3, .inl (fun _ => 0)), .inl (0, 3, .inl (fun _ => 0)), .inl (0, 12, .inl (fun _ => 0)), .inl (0, 80, .inl (fun _ => 0)), .inl (0, 20, .inl (fun _ => 0)), .inl (0, 100, .inl (fun _ => 0))] h, 64, _) _
  refine r_aload_n k_117_50 rfl ?_
  refine r_iconst k_117_51 ci_m1 ?_
  refine r_put m_117 k_117_52 fl_8_28 rfl (Nat.le_of_ble_eq_true rfl) rfl rfl (hm_seg_set (k := 0) (Nat.le_of_ble_eq_true rfl) rfl rfl) ?_
  show hm_T _ 117 _ _ _ (hm_seg 61 [.inr (8, [.ref 62, .ref 63, .int 0, .ref 64, .ref 65, .ref 66, .ref 67, .int 0, .int (-1), .int 0, .null, .null, .null, .null, .null, .null, .null, .int 0, .int 0, .null, .null, .null, .null, .int 0, .int 0, .int 0, .null, .null, .null, .null, .null]), .inl (0, 3, .inl (fun _ => 0)), .inl (0, 3, .inl (fun _ => 0)), .inl (0, 12, .inl (fun _ => 0)), .inl (0, 80, .inl (fun _ => 0)), .inl (0, 20, .inl (fun _ => 0)), .inl (0, 100, .inl (fun _ => 0))] h, 64, _) _
  refine r_aload_n k_117_55 rfl ?_
  refine r_bipush k_117_56 cb_16 ?_
  refine r_newa_int (N := 16) k_117_58 (by decide) (nI_clamp (by decide)) (by decide) (pT rfl) ?_
  refine r_put m_117 k_117_60 fl_8_32 rfl (Nat.le_of_ble_eq_true rfl) rfl rfl (hm_seg_set (k := 0) (Nat.le_of_ble_eq_true rfl) rfl rfl) ?_
  show hm_T _ 117 _ _ _ (hm_seg 61 [.inr (8, [.ref 62, .ref 63, .int 0, .ref 64, .ref 65, .ref 66, .ref 67, .int 0, .int (-1), .int 0, .ref 68, .null, .null, .null, .null, .null, .null, .int 0, .int 0, .null, .null, .null, .null, .int 0, .int 0, .int 0, .null, .null, .null, .null, .null]), .inl (0, 3, .inl (fun _ => 0)), .inl (0, 3, .inl (fun _ => 0)), .inl (0, 12, .inl (fun _ => 0)), .inl (0, 80, .inl (fun _ => 0)), .inl (0, 20, .inl (fun _ => 0)), .inl (0, 100, .inl (fun _ => 0)), .inl (0, 16, .inl (fun _ => 0))] h, 65, _) _
  refine r_aload_n k_117_63 rfl ?_
  refine r_bipush k_117_64 cb_16 ?_
  refine r_newa_int (N := 16) k_117_66 (by decide) (nI_clamp (by decide)) (by decide) (pT rfl) ?_
  refine r_put m_117 k_117_68 fl_8_35 rfl (Nat.le_of_ble_eq_true rfl) rfl rfl (hm_seg_set (k := 0) (Nat.le_of_ble_eq_true rfl) rfl rfl) ?_
  show hm_T _ 117 _ _ _ (hm_seg 61 [.inr (8, [.ref 62, .ref 63, .int 0, .ref 64, .ref 65, .ref 66, .ref 67, .int 0, .int (-1), .int 0, .ref 68, .ref 69, .null, .null, .null, .null, .null, .int 0, .int 0, .null, .null, .null, .null, .int 0, .int 0, .int 0, .null, .null, .null, .null, .null]), .inl (0, 3, .inl (fun _ => 0)), .inl (0, 3, .inl (fun _ => 0)), .inl (0, 12, .inl (fun _ => 0)), .inl (0, 80, .inl (fun _ => 0)), .inl (0, 20, .inl (fun _ => 0)), .inl (0, 100, .inl (fun _ => 0)), .inl (0, 16, .inl (fun _ => 0)), .inl (0, 16, .inl (fun _ => 0))] h, 66, _) _
  refine r_aload_n k_117_71 rfl ?_
  refine r_bipush k_117_72 cb_16 ?_
  refine r_newa_int (N := 16) k_117_74 (by decide) (nI_clamp (by decide)) (by decide) (pT rfl) ?_
  refine r_put m_117 k_117_76 fl_8_38 rfl (Nat.le_of_ble_eq_true rfl) rfl rfl (hm_seg_set (k := 0) (Nat.le_of_ble_eq_true rfl) rfl rfl) ?_
  show hm_T _ 117 _ _ _ (hm_seg 61 [.inr (8, [.ref 62, .ref 63, .int 0, .ref 64, .ref 65, .ref 66, .ref 67, .int 0, .int (-1), .int 0, .ref 68, .ref 69, .ref 70, .null, .null, .null, .null, .int 0, .int 0, .null, .null, .null, .null, .int 0, .int 0, .int 0, .null, .null, .null, .null, .null]), .inl (0, 3, .inl (fun _ => 0)), .inl (0, 3, .inl (fun _ => 0)), .inl (0, 12, .inl (fun _ => 0)), .inl (0, 80, .inl (fun _ => 0)), .inl (0, 20, .inl (fun _ => 0)), .inl (0, 100, .inl (fun _ => 0)), .inl (0, 16, .inl (fun _ => 0)), .inl (0, 16, .inl (fun _ => 0)), .inl (0, 16, .inl (fun _ => 0))] h, 67, _) _
  refine r_aload_n k_117_79 rfl ?_
  refine r_bipush k_117_80 cb_16 ?_
  refine r_newa_int (N := 16) k_117_82 (by decide) (nI_clamp (by decide)) (by decide) (pT rfl) ?_
  refine r_put m_117 k_117_84 fl_8_41 rfl (Nat.le_of_ble_eq_true rfl) rfl rfl (hm_seg_set (k := 0) (Nat.le_of_ble_eq_true rfl) rfl rfl) ?_
  show hm_T _ 117 _ _ _ (hm_seg 61 [.inr (8, [.ref 62, .ref 63, .int 0, .ref 64, .ref 65, .ref 66, .ref 67, .int 0, .int (-1), .int 0, .ref 68, .ref 69, .ref 70, .ref 71, .null, .null, .null, .int 0, .int 0, .null, .null, .null, .null, .int 0, .int 0, .int 0, .null, .null, .null, .null, .null]), .inl (0, 3, .inl (fun _ => 0)), .inl (0, 3, .inl (fun _ => 0)), .inl (0, 12, .inl (fun _ => 0)), .inl (0, 80, .inl (fun _ => 0)), .inl (0, 20, .inl (fun _ => 0)), .inl (0, 100, .inl (fun _ => 0)), .inl (0, 16, .inl (fun _ => 0)), .inl (0, 16, .inl (fun _ => 0)), .inl (0, 16, .inl (fun _ => 0)), .inl (0, 16, .inl (fun _ => 0))] h, 68, _) _
  refine r_aload_n k_117_87 rfl ?_
  refine r_bipush k_117_88 cb_96 ?_
  refine r_newa_int (N := 96) k_117_90 (by decide) (nI_clamp (by decide)) (by decide) (pT rfl) ?_
  refine r_put m_117 k_117_92 fl_8_44 rfl (Nat.le_of_ble_eq_true rfl) rfl rfl (hm_seg_set (k := 0) (Nat.le_of_ble_eq_true rfl) rfl rfl) ?_
  show hm_T _ 117 _ _ _ (hm_seg 61 [.inr (8, [.ref 62, .ref 63, .int 0, .ref 64, .ref 65, .ref 66, .ref 67, .int 0, .int (-1), .int 0, .ref 68, .ref 69, .ref 70, .ref 71, .ref 72, .null, .null, .int 0, .int 0, .null, .null, .null, .null, .int 0, .int 0, .int 0, .null, .null, .null, .null, .null]), .inl (0, 3, .inl (fun _ => 0)), .inl (0, 3, .inl (fun _ => 0)), .inl (0, 12, .inl (fun _ => 0)), .inl (0, 80, .inl (fun _ => 0)), .inl (0, 20, .inl (fun _ => 0)), .inl (0, 100, .inl (fun _ => 0)), .inl (0, 16, .inl (fun _ => 0)), .inl (0, 16, .inl (fun _ => 0)), .inl (0, 16, .inl (fun _ => 0)), .inl (0, 16, .inl (fun _ => 0)), .inl (0, 96, .inl (fun _ => 0))] h, 69, _) _
  refine r_aload_n k_117_95 rfl ?_
  refine r_bipush k_117_96 cb_64 ?_
  refine r_newa_int (N := 64) k_117_98 (by decide) (nI_clamp (by decide)) (by decide) (pT rfl) ?_
  refine r_put m_117 k_117_100 fl_8_47 rfl (Nat.le_of_ble_eq_true rfl) rfl rfl (hm_seg_set (k := 0) (Nat.le_of_ble_eq_true rfl) rfl rfl) ?_
  show hm_T _ 117 _ _ _ (hm_seg 61 [.inr (8, [.ref 62, .ref 63, .int 0, .ref 64, .ref 65, .ref 66, .ref 67, .int 0, .int (-1), .int 0, .ref 68, .ref 69, .ref 70, .ref 71, .ref 72, .ref 73, .null, .int 0, .int 0, .null, .null, .null, .null, .int 0, .int 0, .int 0, .null, .null, .null, .null, .null]), .inl (0, 3, .inl (fun _ => 0)), .inl (0, 3, .inl (fun _ => 0)), .inl (0, 12, .inl (fun _ => 0)), .inl (0, 80, .inl (fun _ => 0)), .inl (0, 20, .inl (fun _ => 0)), .inl (0, 100, .inl (fun _ => 0)), .inl (0, 16, .inl (fun _ => 0)), .inl (0, 16, .inl (fun _ => 0)), .inl (0, 16, .inl (fun _ => 0)), .inl (0, 16, .inl (fun _ => 0)), .inl (0, 96, .inl (fun _ => 0)), .inl (0, 64, .inl (fun _ => 0))] h, 70, _) _
  refine r_aload_n k_117_103 rfl ?_
  refine r_bipush k_117_104 cb_16 ?_
  refine r_newa_boolean (N := 16) k_117_106 (by decide) (nI_clamp (by decide)) (by decide) (pT rfl) ?_
  refine r_put m_117 k_117_108 fl_8_50 rfl (Nat.le_of_ble_eq_true rfl) rfl rfl (hm_seg_set (k := 0) (Nat.le_of_ble_eq_true rfl) rfl rfl) ?_
  show hm_T _ 117 _ _ _ (hm_seg 61 [.inr (8, [.ref 62, .ref 63, .int 0, .ref 64, .ref 65, .ref 66, .ref 67, .int 0, .int (-1), .int 0, .ref 68, .ref 69, .ref 70, .ref 71, .ref 72, .ref 73, .ref 74, .int 0, .int 0, .null, .null, .null, .null, .int 0, .int 0, .int 0, .null, .null, .null, .null, .null]), .inl (0, 3, .inl (fun _ => 0)), .inl (0, 3, .inl (fun _ => 0)), .inl (0, 12, .inl (fun _ => 0)), .inl (0, 80, .inl (fun _ => 0)), .inl (0, 20, .inl (fun _ => 0)), .inl (0, 100, .inl (fun _ => 0)), .inl (0, 16, .inl (fun _ => 0)), .inl (0, 16, .inl (fun _ => 0)), .inl (0, 16, .inl (fun _ => 0)), .inl (0, 16, .inl (fun _ => 0)), .inl (0, 96, .inl (fun _ => 0)), .inl (0, 64, .inl (fun _ => 0)), .inl (2, 16, .inl (fun _ => 0))] h, 71, _) _
  refine r_aload_n k_117_111 rfl ?_
  refine r_bipush k_117_112 cb_16 ?_
  refine r_newa_int (N := 16) k_117_114 (by decide) (nI_clamp (by decide)) (by decide) (pT rfl) ?_
  refine r_put m_117 k_117_116 fl_8_54 rfl (Nat.le_of_ble_eq_true rfl) rfl rfl (hm_seg_set (k := 0) (Nat.le_of_ble_eq_true rfl) rfl rfl) ?_
  show hm_T _ 117 _ _ _ (hm_seg 61 [.inr (8, [.ref 62, .ref 63, .int 0, .ref 64, .ref 65, .ref 66, .ref 67, .int 0, .int (-1), .int 0, .ref 68, .ref 69, .ref 70, .ref 71, .ref 72, .ref 73, .ref 74, .int 0, .int 0, .ref 75, .null, .null, .null, .int 0, .int 0, .int 0, .null, .null, .null, .null, .null]), .inl (0, 3, .inl (fun _ => 0)), .inl (0, 3, .inl (fun _ => 0)), .inl (0, 12, .inl (fun _ => 0)), .inl (0, 80, .inl (fun _ => 0)), .inl (0, 20, .inl (fun _ => 0)), .inl (0, 100, .inl (fun _ => 0)), .inl (0, 16, .inl (fun _ => 0)), .inl (0, 16, .inl (fun _ => 0)), .inl (0, 16, .inl (fun _ => 0)), .inl (0, 16, .inl (fun _ => 0)), .inl (0, 96, .inl (fun _ => 0)), .inl (0, 64, .inl (fun _ => 0)), .inl (2, 16, .inl (fun _ => 0)), .inl (0, 16, .inl (fun _ => 0))] h, 72, _) _
  refine r_aload_n k_117_119 rfl ?_
  refine r_bipush k_117_120 cb_16 ?_
  refine r_newa_int (N := 16) k_117_122 (by decide) (nI_clamp (by decide)) (by decide) (pT rfl) ?_
  refine r_put m_117 k_117_124 fl_8_57 rfl (Nat.le_of_ble_eq_true rfl) rfl rfl (hm_seg_set (k := 0) (Nat.le_of_ble_eq_true rfl) rfl rfl) ?_
  show hm_T _ 117 _ _ _ (hm_seg 61 [.inr (8, [.ref 62, .ref 63, .int 0, .ref 64, .ref 65, .ref 66, .ref 67, .int 0, .int (-1), .int 0, .ref 68, .ref 69, .ref 70, .ref 71, .ref 72, .ref 73, .ref 74, .int 0, .int 0, .ref 75, .ref 76, .null, .null, .int 0, .int 0, .int 0, .null, .null, .null, .null, .null]), .inl (0, 3, .inl (fun _ => 0)), .inl (0, 3, .inl (fun _ => 0)), .inl (0, 12, .inl (fun _ => 0)), .inl (0, 80, .inl (fun _ => 0)), .inl (0, 20, .inl (fun _ => 0)), .inl (0, 100, .inl (fun _ => 0)), .inl (0, 16, .inl (fun _ => 0)), .inl (0, 16, .inl (fun _ => 0)), .inl (0, 16, .inl (fun _ => 0)), .inl (0, 16, .inl (fun _ => 0)), .inl (0, 96, .inl (fun _ => 0)), .inl (0, 64, .inl (fun _ => 0)), .inl (2, 16, .inl (fun _ => 0)), .inl (0, 16, .inl (fun _ => 0)), .inl (0, 16, .inl (fun _ => 0))] h, 73, _) _
  refine r_aload_n k_117_127 rfl ?_
  refine r_bipush k_117_128 cb_16 ?_
  refine r_newa_int (N := 16) k_117_130 (by decide) (nI_clamp (by decide)) (by decide) (pT rfl) ?_
  refine r_put m_117 k_117_132 fl_8_60 rfl (Nat.le_of_ble_eq_true rfl) rfl rfl (hm_seg_set (k := 0) (Nat.le_of_ble_eq_true rfl) rfl rfl) ?_
  show hm_T _ 117 _ _ _ (hm_seg 61 [.inr (8, [.ref 62, .ref 63, .int 0, .ref 64, .ref 65, .ref 66, .ref 67, .int 0, .int (-1), .int 0, .ref 68, .ref 69, .ref 70, .ref 71, .ref 72, .ref 73, .ref 74, .int 0, .int 0, .ref 75, .ref 76, .ref 77, .null, .int 0, .int 0, .int 0, .null, .null, .null, .null, .null]), .inl (0, 3, .inl (fun _ => 0)), .inl (0, 3, .inl (fun _ => 0)), .inl (0, 12, .inl (fun _ => 0)), .inl (0, 80, .inl (fun _ => 0)), .inl (0, 20, .inl (fun _ => 0)), .inl (0, 100, .inl (fun _ => 0)), .inl (0, 16, .inl (fun _ => 0)), .inl (0, 16, .inl (fun _ => 0)), .inl (0, 16, .inl (fun _ => 0)), .inl (0, 16, .inl (fun _ => 0)), .inl (0, 96, .inl (fun _ => 0)), .inl (0, 64, .inl (fun _ => 0)), .inl (2, 16, .inl (fun _ => 0)), .inl (0, 16, .inl (fun _ => 0)), .inl (0, 16, .inl (fun _ => 0)), .inl (0, 16, .inl (fun _ => 0))] h, 74, _) _
  refine r_aload_n k_117_135 rfl ?_
  refine r_bipush k_117_136 cb_16 ?_
  refine r_newa_int (N := 16) k_117_138 (by decide) (nI_clamp (by decide)) (by decide) (pT rfl) ?_
  refine r_put m_117 k_117_140 fl_8_63 rfl (Nat.le_of_ble_eq_true rfl) rfl rfl (hm_seg_set (k := 0) (Nat.le_of_ble_eq_true rfl) rfl rfl) ?_
  show hm_T _ 117 _ _ _ (hm_seg 61 [.inr (8, [.ref 62, .ref 63, .int 0, .ref 64, .ref 65, .ref 66, .ref 67, .int 0, .int (-1), .int 0, .ref 68, .ref 69, .ref 70, .ref 71, .ref 72, .ref 73, .ref 74, .int 0, .int 0, .ref 75, .ref 76, .ref 77, .ref 78, .int 0, .int 0, .int 0, .null, .null, .null, .null, .null]), .inl (0, 3, .inl (fun _ => 0)), .inl (0, 3, .inl (fun _ => 0)), .inl (0, 12, .inl (fun _ => 0)), .inl (0, 80, .inl (fun _ => 0)), .inl (0, 20, .inl (fun _ => 0)), .inl (0, 100, .inl (fun _ => 0)), .inl (0, 16, .inl (fun _ => 0)), .inl (0, 16, .inl (fun _ => 0)), .inl (0, 16, .inl (fun _ => 0)), .inl (0, 16, .inl (fun _ => 0)), .inl (0, 96, .inl (fun _ => 0)), .inl (0, 64, .inl (fun _ => 0)), .inl (2, 16, .inl (fun _ => 0)), .inl (0, 16, .inl (fun _ => 0)), .inl (0, 16, .inl (fun _ => 0)), .inl (0, 16, .inl (fun _ => 0)), .inl (0, 16, .inl (fun _ => 0))] h, 75, _) _
  refine r_aload_n k_117_143 rfl ?_
  refine r_bipush k_117_144 cb_8 ?_
  refine r_newa_int (N := 8) k_117_146 (by decide) (nI_clamp (by decide)) (by decide) (pT rfl) ?_
  refine r_put m_117 k_117_148 fl_8_66 rfl (Nat.le_of_ble_eq_true rfl) rfl rfl (hm_seg_set (k := 0) (Nat.le_of_ble_eq_true rfl) rfl rfl) ?_
  show hm_T _ 117 _ _ _ (hm_seg 61 [.inr (8, [.ref 62, .ref 63, .int 0, .ref 64, .ref 65, .ref 66, .ref 67, .int 0, .int (-1), .int 0, .ref 68, .ref 69, .ref 70, .ref 71, .ref 72, .ref 73, .ref 74, .int 0, .int 0, .ref 75, .ref 76, .ref 77, .ref 78, .int 0, .int 0, .int 0, .ref 79, .null, .null, .null, .null]), .inl (0, 3, .inl (fun _ => 0)), .inl (0, 3, .inl (fun _ => 0)), .inl (0, 12, .inl (fun _ => 0)), .inl (0, 80, .inl (fun _ => 0)), .inl (0, 20, .inl (fun _ => 0)), .inl (0, 100, .inl (fun _ => 0)), .inl (0, 16, .inl (fun _ => 0)), .inl (0, 16, .inl (fun _ => 0)), .inl (0, 16, .inl (fun _ => 0)), .inl (0, 16, .inl (fun _ => 0)), .inl (0, 96, .inl (fun _ => 0)), .inl (0, 64, .inl (fun _ => 0)), .inl (2, 16, .inl (fun _ => 0)), .inl (0, 16, .inl (fun _ => 0)), .inl (0, 16, .inl (fun _ => 0)), .inl (0, 16, .inl (fun _ => 0)), .inl (0, 16, .inl (fun _ => 0)), .inl (0, 8, .inl (fun _ => 0))] h, 76, _) _
  refine r_aload_n k_117_151 rfl ?_
  refine r_bipush k_117_152 cb_8 ?_
  refine r_newa_int (N := 8) k_117_154 (by decide) (nI_clamp (by decide)) (by decide) (pT rfl) ?_
  refine r_put m_117 k_117_156 fl_8_69 rfl (Nat.le_of_ble_eq_true rfl) rfl rfl (hm_seg_set (k := 0) (Nat.le_of_ble_eq_true rfl) rfl rfl) ?_
  show hm_T _ 117 _ _ _ (hm_seg 61 [.inr (8, [.ref 62, .ref 63, .int 0, .ref 64, .ref 65, .ref 66, .ref 67, .int 0, .int (-1), .int 0, .ref 68, .ref 69, .ref 70, .ref 71, .ref 72, .ref 73, .ref 74, .int 0, .int 0, .ref 75, .ref 76, .ref 77, .ref 78, .int 0, .int 0, .int 0, .ref 79, .ref 80, .null, .null, .null]), .inl (0, 3, .inl (fun _ => 0)), .inl (0, 3, .inl (fun _ => 0)), .inl (0, 12, .inl (fun _ => 0)), .inl (0, 80, .inl (fun _ => 0)), .inl (0, 20, .inl (fun _ => 0)), .inl (0, 100, .inl (fun _ => 0)), .inl (0, 16, .inl (fun _ => 0)), .inl (0, 16, .inl (fun _ => 0)), .inl (0, 16, .inl (fun _ => 0)), .inl (0, 16, .inl (fun _ => 0)), .inl (0, 96, .inl (fun _ => 0)), .inl (0, 64, .inl (fun _ => 0)), .inl (2, 16, .inl (fun _ => 0)), .inl (0, 16, .inl (fun _ => 0)), .inl (0, 16, .inl (fun _ => 0)), .inl (0, 16, .inl (fun _ => 0)), .inl (0, 16, .inl (fun _ => 0)), .inl (0, 8, .inl (fun _ => 0)), .inl (0, 8, .inl (fun _ => 0))] h, 77, _) _
  refine r_aload_n k_117_159 rfl ?_
  refine r_sipush k_117_160 cs_7392 ?_
  refine r_newa_int (N := 7392) k_117_163 (by decide) (nI_clamp (by decide)) (by decide) (pT rfl) ?_
  refine r_put m_117 k_117_165 fl_8_72 rfl (Nat.le_of_ble_eq_true rfl) rfl rfl (hm_seg_set (k := 0) (Nat.le_of_ble_eq_true rfl) rfl rfl) ?_
  show hm_T _ 117 _ _ _ (hm_seg 61 [.inr (8, [.ref 62, .ref 63, .int 0, .ref 64, .ref 65, .ref 66, .ref 67, .int 0, .int (-1), .int 0, .ref 68, .ref 69, .ref 70, .ref 71, .ref 72, .ref 73, .ref 74, .int 0, .int 0, .ref 75, .ref 76, .ref 77, .ref 78, .int 0, .int 0, .int 0, .ref 79, .ref 80, .ref 81, .null, .null]), .inl (0, 3, .inl (fun _ => 0)), .inl (0, 3, .inl (fun _ => 0)), .inl (0, 12, .inl (fun _ => 0)), .inl (0, 80, .inl (fun _ => 0)), .inl (0, 20, .inl (fun _ => 0)), .inl (0, 100, .inl (fun _ => 0)), .inl (0, 16, .inl (fun _ => 0)), .inl (0, 16, .inl (fun _ => 0)), .inl (0, 16, .inl (fun _ => 0)), .inl (0, 16, .inl (fun _ => 0)), .inl (0, 96, .inl (fun _ => 0)), .inl (0, 64, .inl (fun _ => 0)), .inl (2, 16, .inl (fun _ => 0)), .inl (0, 16, .inl (fun _ => 0)), .inl (0, 16, .inl (fun _ => 0)), .inl (0, 16, .inl (fun _ => 0)), .inl (0, 16, .inl (fun _ => 0)), .inl (0, 8, .inl (fun _ => 0)), .inl (0, 8, .inl (fun _ => 0)), .inl (0, 7392, .inl (fun _ => 0))] h, 78, _) _
  refine r_aload_n k_117_168 rfl ?_
  refine r_bipush k_117_169 cb_8 ?_
  refine r_newa_int (N := 8) k_117_171 (by decide) (nI_clamp (by decide)) (by decide) (pT rfl) ?_
  refine r_put m_117 k_117_173 fl_8_75 rfl (Nat.le_of_ble_eq_true rfl) rfl rfl (hm_seg_set (k := 0) (Nat.le_of_ble_eq_true rfl) rfl rfl) ?_
  show hm_T _ 117 _ _ _ (hm_seg 61 [.inr (8, [.ref 62, .ref 63, .int 0, .ref 64, .ref 65, .ref 66, .ref 67, .int 0, .int (-1), .int 0, .ref 68, .ref 69, .ref 70, .ref 71, .ref 72, .ref 73, .ref 74, .int 0, .int 0, .ref 75, .ref 76, .ref 77, .ref 78, .int 0, .int 0, .int 0, .ref 79, .ref 80, .ref 81, .ref 82, .null]), .inl (0, 3, .inl (fun _ => 0)), .inl (0, 3, .inl (fun _ => 0)), .inl (0, 12, .inl (fun _ => 0)), .inl (0, 80, .inl (fun _ => 0)), .inl (0, 20, .inl (fun _ => 0)), .inl (0, 100, .inl (fun _ => 0)), .inl (0, 16, .inl (fun _ => 0)), .inl (0, 16, .inl (fun _ => 0)), .inl (0, 16, .inl (fun _ => 0)), .inl (0, 16, .inl (fun _ => 0)), .inl (0, 96, .inl (fun _ => 0)), .inl (0, 64, .inl (fun _ => 0)), .inl (2, 16, .inl (fun _ => 0)), .inl (0, 16, .inl (fun _ => 0)), .inl (0, 16, .inl (fun _ => 0)), .inl (0, 16, .inl (fun _ => 0)), .inl (0, 16, .inl (fun _ => 0)), .inl (0, 8, .inl (fun _ => 0)), .inl (0, 8, .inl (fun _ => 0)), .inl (0, 7392, .inl (fun _ => 0)), .inl (0, 8, .inl (fun _ => 0))] h, 79, _) _
  refine r_aload_n k_117_176 rfl ?_
  refine r_bipush k_117_177 cb_6 ?_
  refine r_newa_int (N := 6) k_117_179 (by decide) (nI_clamp (by decide)) (by decide) (pT rfl) ?_
  refine r_put m_117 k_117_181 fl_8_78 rfl (Nat.le_of_ble_eq_true rfl) rfl rfl (hm_seg_set (k := 0) (Nat.le_of_ble_eq_true rfl) rfl rfl) ?_
  show hm_T _ 117 _ _ _ (hm_seg 61 [.inr (8, [.ref 62, .ref 63, .int 0, .ref 64, .ref 65, .ref 66, .ref 67, .int 0, .int (-1), .int 0, .ref 68, .ref 69, .ref 70, .ref 71, .ref 72, .ref 73, .ref 74, .int 0, .int 0, .ref 75, .ref 76, .ref 77, .ref 78, .int 0, .int 0, .int 0, .ref 79, .ref 80, .ref 81, .ref 82, .ref 83]), .inl (0, 3, .inl (fun _ => 0)), .inl (0, 3, .inl (fun _ => 0)), .inl (0, 12, .inl (fun _ => 0)), .inl (0, 80, .inl (fun _ => 0)), .inl (0, 20, .inl (fun _ => 0)), .inl (0, 100, .inl (fun _ => 0)), .inl (0, 16, .inl (fun _ => 0)), .inl (0, 16, .inl (fun _ => 0)), .inl (0, 16, .inl (fun _ => 0)), .inl (0, 16, .inl (fun _ => 0)), .inl (0, 96, .inl (fun _ => 0)), .inl (0, 64, .inl (fun _ => 0)), .inl (2, 16, .inl (fun _ => 0)), .inl (0, 16, .inl (fun _ => 0)), .inl (0, 16, .inl (fun _ => 0)), .inl (0, 16, .inl (fun _ => 0)), .inl (0, 16, .inl (fun _ => 0)), .inl (0, 8, .inl (fun _ => 0)), .inl (0, 8, .inl (fun _ => 0)), .inl (0, 7392, .inl (fun _ => 0)), .inl (0, 8, .inl (fun _ => 0)), .inl (0, 6, .inl (fun _ => 0))] h, 80, _) _
  show hm_T _ 117 _ _ _ (hm_hM hm_m1 h 80 (s + 7944)) _
  refine r_aload_n k_117_184 rfl ?_
  refine r_get m_117 k_117_185 fl_8_7 rfl rfl ?_
  refine r_iconst k_117_188 ci_0 ?_
  refine r_iconst k_117_189 ci_3 ?_
  refine r_iastn (k := 0) k_117_190 rfl rfl rfl (by decide) (by decide) (wM_0 _) ?_
  refine r_aload_n k_117_191 rfl ?_
  refine r_get m_117 k_117_192 fl_8_7 rfl rfl ?_
  refine r_iconst k_117_195 ci_1 ?_
  refine r_iconst k_117_196 ci_1 ?_
  refine r_iastn (k := 1) k_117_197 rfl rfl rfl (by decide) (by decide) ((wM_0 _).trans (by rw [hm_uM2])) ?_
  refine r_aload_n k_117_198 rfl ?_
  refine r_get m_117 k_117_199 fl_8_7 rfl rfl ?_
  refine r_iconst k_117_202 ci_2 ?_
  refine r_iconst k_117_203 ci_4 ?_
  refine r_iastn (k := 2) k_117_204 rfl rfl rfl (by decide) (by decide) ((wM_0 _).trans (by rw [hm_uM2])) ?_
  refine r_iconst k_117_205 ci_0 ?_
  refine r_istore_n k_117_206 rfl ?_
  refine r_iload_n k_117_207 rfl ?_
  refine r_iconst k_117_208 ci_3 ?_
  refine r_icmp_ge k_117_209 rfl (fun z => absurd z (by decide)) (fun c_209 => ?_)
  refine r_aload_n k_117_212 rfl ?_
  refine r_get m_117 k_117_213 fl_8_13 rfl rfl ?_
  refine r_iload_n k_117_216 rfl ?_
  refine r_sipush k_117_217 cs_1023 ?_
  refine r_iastn (k := 0) k_117_220 rfl rfl rfl (by decide) (by decide) (wM_1 _) ?_
  refine r_iincn k_117_221 rfl (nI_inc 0) rfl ?_
  refine r_goto k_117_224 rfl ?_
  refine r_iload_n k_117_207 rfl ?_
  refine r_iconst k_117_208 ci_3 ?_
  refine r_icmp_ge k_117_209 rfl (fun z => absurd z (by decide)) (fun c_209 => ?_)
  refine r_aload_n k_117_212 rfl ?_
  refine r_get m_117 k_117_213 fl_8_13 rfl rfl ?_
  refine r_iload_n k_117_216 rfl ?_
  refine r_sipush k_117_217 cs_1023 ?_
  refine r_iastn (k := 1) k_117_220 rfl rfl rfl (by decide) (by decide) ((wM_1 _).trans (by rw [hm_uM2])) ?_
  refine r_iincn k_117_221 rfl (nI_inc 1) rfl ?_
  refine r_goto k_117_224 rfl ?_
  refine r_iload_n k_117_207 rfl ?_
  refine r_iconst k_117_208 ci_3 ?_
  refine r_icmp_ge k_117_209 rfl (fun z => absurd z (by decide)) (fun c_209 => ?_)
  refine r_aload_n k_117_212 rfl ?_
  refine r_get m_117 k_117_213 fl_8_13 rfl rfl ?_
  refine r_iload_n k_117_216 rfl ?_
  refine r_sipush k_117_217 cs_1023 ?_
  refine r_iastn (k := 2) k_117_220 rfl rfl rfl (by decide) (by decide) ((wM_1 _).trans (by rw [hm_uM2])) ?_
  refine r_iincn k_117_221 rfl (nI_inc 2) rfl ?_
  refine r_goto k_117_224 rfl ?_
  refine r_iload_n k_117_207 rfl ?_
  refine r_iconst k_117_208 ci_3 ?_
  refine r_icmp_ge k_117_209 rfl (fun c_209 => ?_) (fun z => absurd (by decide) z)
  refine r_iconst k_117_227 ci_0 ?_
  refine r_istore_n k_117_228 rfl ?_
  show hm_T _ 117 _ [.ref 61, .int (nI 0)] _ (hm_hM (hm_uM (hm_uM hm_m1 0 (upd (upd (upd (fun _ => 0) 0 (nI 3)) 1 (nI 1)) 2 (nI 4))) 1 (upd (upd (upd (fun _ => 0) 0 (nI 1023)) 1 (nI 1023)) 2 (nI 1023))) h 80 _) _
  rw [show hm_hM (hm_uM (hm_uM hm_m1 0 (upd (upd (upd (fun _ => 0) 0 (nI 3)) 1 (nI 1)) 2 (nI 4))) 1 (upd (upd (upd (fun _ => 0) 0 (nI 1023)) 1 (nI 1023)) 2 (nI 1023))) h 80 (s + 7944) = hm_hM (hm_uM (hm_uM (hm_uM hm_m1 0 (upd (upd (upd (fun _ => 0) 0 (nI 3)) 1 (nI 1)) 2 (nI 4))) 1 (upd (upd (upd (fun _ => 0) 0 (nI 1023)) 1 (nI 1023)) 2 (nI 1023))) 4 (fun _ => 0)) h 80 (s + 7944) by rw [show hm_uM (hm_uM (hm_uM hm_m1 0 (upd (upd (upd (fun _ => 0) 0 (nI 3)) 1 (nI 1)) 2 (nI 4))) 1 (upd (upd (upd (fun _ => 0) 0 (nI 1023)) 1 (nI 1023)) 2 (nI 1023))) 4 (fun _ => 0) = (hm_uM (hm_uM hm_m1 0 (upd (upd (upd (fun _ => 0) 0 (nI 3)) 1 (nI 1)) 2 (nI 4))) 1 (upd (upd (upd (fun _ => 0) 0 (nI 1023)) 1 (nI 1023)) 2 (nI 1023))) from hm_uMs (hm_uM (hm_uM hm_m1 0 (upd (upd (upd (fun _ => 0) 0 (nI 3)) 1 (nI 1)) 2 (nI 4))) 1 (upd (upd (upd (fun _ => 0) 0 (nI 1023)) 1 (nI 1023)) 2 (nI 1023))) 4]]
  exact l_117 80 0 (fun _ => 0) (by omega) hQ
