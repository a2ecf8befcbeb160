/-! THE CLASS IS MADE: a growing segment of cells -/
section SG
variable {L R : List va_E} {h : Nat → Option va_E} {n s b i : Nat} {e : va_E}
theorem rS (hb : 4 + L.length = b) (he : R[i]? = some e) : (hm_seg 4 (L ++ R) h, n, s).1 (b + i) = some e := by
  have hi := (List.getElem?_eq_some_iff.mp he).1
  show hm_seg 4 (L ++ R) h (b + i) = _
  unfold hm_seg
  rw [if_pos (by rw [List.length_append]; omega), ← hb, show 4 + L.length + i - 4 = L.length + i by omega, List.getElem?_append_right (Nat.le_add_right _ _), Nat.add_sub_cancel_left]
  exact he
theorem wS (hb : 4 + L.length = b) (hi : i < R.length) : hm_set (hm_seg 4 (L ++ R) h, n, s) (b + i) e = (hm_seg 4 (L ++ R.set i e) h, n, s) := by
  refine hm_seg_set (k := L.length + i) (by rw [List.length_append]; omega) (by omega) ?_
  rw [List.set_append_right _ _ (Nat.le_add_right _ _), Nat.add_sub_cancel_left]
theorem pS {m : Nat} (hN : n + 4 = 4 + L.length + R.length) : hm_push (hm_seg 4 (L ++ R) h, n, s) e m = (hm_seg 4 (L ++ (R ++ [e])) h, n + 1, s + m) := by
  refine Prod.ext (funext fun j => ?_) rfl
  show (if j = n + 4 then some e else if 4 ≤ j ∧ j < 4 + (L ++ R).length then (L ++ R)[j - 4]? else h j) = (if 4 ≤ j ∧ j < 4 + (L ++ (R ++ [e])).length then (L ++ (R ++ [e]))[j - 4]? else h j)
  rw [List.length_append, List.length_append, List.length_append]
  have e1 : [e].length = 1 := rfl
  by_cases h1 : j = n + 4
  · rw [if_pos h1, if_pos (by omega), ← List.append_assoc, List.getElem?_append_right (by rw [List.length_append]; omega), List.length_append, show j - 4 - (L.length + R.length) = 0 by omega]
    rfl
  · rw [if_neg h1]
    by_cases h2 : 4 ≤ j ∧ j < 4 + (L.length + R.length)
    · rw [if_pos h2, if_pos (by omega), ← List.append_assoc]
      exact (List.getElem?_append_left (l₁ := L ++ R) (by rw [List.length_append]; omega)).symm
    · rw [if_neg h2, if_neg (by omega)]
theorem gS {t N K : Nat} {z : vp_A} (hN : n + 4 = 4 + L.length + R.length) : hm_grid (hm_seg 4 (L ++ R) h, n, s) t N K z = (hm_seg 4 (L ++ (R ++ (.inl (t + 3, N, .inr (.inr (.inr (.inr (fun i => if i < N then some (n + 5 + i) else none))))) :: List.replicate N (.inl (t, z))))) h, n + 1 + N, (hm_grid (hm_seg 4 (L ++ R) h, n, s) t N K z).2.2) := by
  refine Prod.ext (funext fun j => ?_) rfl
  show (if j = n + 4 then _ else if n + 4 < j ∧ j < n + 5 + N then _ else if 4 ≤ j ∧ j < 4 + (L ++ R).length then (L ++ R)[j - 4]? else h j) = (if 4 ≤ j ∧ j < 4 + (L ++ (R ++ (_ :: List.replicate N _))).length then (L ++ (R ++ (_ :: List.replicate N _)))[j - 4]? else h j)
  rw [List.length_append, List.length_append, List.length_append, List.length_cons, List.length_replicate]
  by_cases h1 : j = n + 4
  · rw [if_pos h1, if_pos (by omega), ← List.append_assoc, List.getElem?_append_right (by rw [List.length_append]; omega), List.length_append, show j - 4 - (L.length + R.length) = 0 by omega]
    rfl
  rw [if_neg h1]
  by_cases h2 : n + 4 < j ∧ j < n + 5 + N
  · rw [if_pos h2, if_pos (by omega), ← List.append_assoc, List.getElem?_append_right (by rw [List.length_append]; omega), List.length_append]
    obtain ⟨q, hq⟩ : ∃ q, j - 4 - (L.length + R.length) = q + 1 := ⟨j - 4 - (L.length + R.length) - 1, by omega⟩
    rw [hq, List.getElem?_cons_succ, List.getElem?_replicate, if_pos (by omega)]
  · rw [if_neg h2]
    by_cases h3 : 4 ≤ j ∧ j < 4 + (L.length + R.length)
    · rw [if_pos h3, if_pos (by omega), ← List.append_assoc]
      exact (List.getElem?_append_left (l₁ := L ++ R) (by rw [List.length_append]; omega)).symm
    · rw [if_neg h3, if_neg (by omega)]
end SG
/-- Arrays.fill, to the letter -/
def hc_fz (v : Int32) : Nat → Nat → (Nat → Int32) → Nat → Int32
  | 0, _, f => f
  | j + 1, i, f => hc_fz v j (i + 1) (upd f i v)
set_option maxRecDepth 20000 in
theorem l_8x {d : Nat} {hp : hm_H} {Q : Option Value → hm_H → Prop} {b N : Nat} {v : Int32} (hN : N < 1000) : ∀ (j x : Nat) (f : Nat → Int32), x + j = N → Q none (hm_set hp b (.inl (0, N, .inl (hc_fz v j x f)))) → hm_T d 8 5 [.ref b, .int v, .int (nI x), .int (nI N)] [] (hm_set hp b (.inl (0, N, .inl f))) Q := by
  intro j
  induction j with
  | zero =>
    intro x f hx hQ
    refine r_iload_n k_8_5 rfl ?_
    refine r_iload_n k_8_6 rfl ?_
    refine r_icmp_ge k_8_7 rfl (fun c_7 => ?_) (fun z => absurd (nI_le (show N ≤ x by omega) (by omega)) z)
    exact hm_T.ret m_8 k_8_20 rfl hQ
  | succ j ih =>
    intro x f hx hQ
    refine r_iload_n k_8_5 rfl ?_
    refine r_iload_n k_8_6 rfl ?_
    refine r_icmp_ge k_8_7 rfl (fun z => absurd z (nI_ge (show x < N by omega) (by omega))) (fun c_7 => ?_)
    refine r_aload_n k_8_10 rfl ?_
    refine r_iload_n k_8_11 rfl ?_
    refine r_iload_n k_8_12 rfl ?_
    refine r_iastn (k := x) k_8_13 hm_up_s rfl rfl (show x < N by omega) (by omega) hm_set_set ?_
    refine r_iincn k_8_14 rfl (nI_inc x) rfl ?_
    refine r_goto k_8_17 rfl ?_
    exact ih (x + 1) _ (by omega) hQ
set_option maxRecDepth 20000 in
theorem s_8x {d : Nat} {hp : hm_H} {Q : Option Value → hm_H → Prop} {b N : Nat} {v : Int32} {f : Nat → Int32} (hN : N < 1000) (hc : hp.1 b = some (.inl (0, N, .inl f))) (hQ : Q none (hm_set hp b (.inl (0, N, .inl (hc_fz v N 0 f))))) : hm_T d 8 0 [.ref b, .int v, .retAddr 0, .retAddr 0] [] hp Q := by
  refine r_iconst k_8_0 ci_0 ?_
  refine r_istore_n k_8_1 rfl ?_
  refine r_aload_n k_8_2 rfl ?_
  refine r_alen k_8_3 hc rfl ?_
  refine r_istore_n k_8_4 rfl ?_
  have e0 : hm_set hp b (.inl (0, N, .inl f)) = hp := by
    refine Prod.ext (funext fun j => ?_) rfl
    show (if j = b then some _ else hp.1 j) = hp.1 j
    by_cases hj : j = b
    · rw [if_pos hj, hj, hc]
    · rw [if_neg hj]
  have e := l_8x (d := d) (hp := hp) (Q := Q) (b := b) (v := v) hN N 0 f (by omega) hQ
  rw [e0] at e
  exact e
set_option maxRecDepth 20000 in
theorem s_4 {d n s b : Nat} {L : List va_E} {h : Nat → Option va_E} {Q : Option Value → hm_H → Prop} (hb : 4 + L.length = b) (hn : n + 3 = b) (hQ : Q none (hm_seg 4 (L ++ [.inr (6, [.ref (b + 1), .int (nI 0)]), .inl (0, 100, .inl (fun _ => 0))]) h, n + 1, s + 100)) : hm_T (d + 1) 4 0 [.ref b] [] (hm_seg 4 (L ++ [.inr (6, [.null, .int 0])]) h, n, s) Q := by
  subst hn
  refine r_aload_n k_4_0 rfl ?_
  refine r_obj m_4 k_4_1 cl_6_3 (Nat.le_of_ble_eq_true rfl) ?_
  refine r_aload_n k_4_4 rfl ?_
  refine r_bipush k_4_5 cb_100 ?_
  refine r_newa_int (N := 100) k_4_7 (by decide) (nI_clamp (by decide)) (by decide) (pS (show n + 0 + 4 = 4 + L.length + 1 by omega)) ?_
  refine r_put m_4 k_4_9 fl_6_9 (rS (i := 0) hb rfl) (Nat.le_of_ble_eq_true rfl) rfl rfl (wS (i := 0) hb (Nat.le_of_ble_eq_true rfl)) ?_
  refine r_aload_n k_4_12 rfl ?_
  refine r_iconst k_4_13 ci_0 ?_
  refine r_put m_4 k_4_14 fl_6_15 (rS (i := 0) hb rfl) (Nat.le_of_ble_eq_true rfl) rfl rfl (wS (i := 0) hb (Nat.le_of_ble_eq_true rfl)) ?_
  exact hm_T.ret m_4 k_4_17 rfl hQ
set_option maxRecDepth 20000 in
theorem s_5 {d n s b : Nat} {L : List va_E} {h : Nat → Option va_E} {Q : Option Value → hm_H → Prop} (hb : 4 + L.length = b) (hQ : Q none (hm_seg 4 (L ++ [.inr (3, [.int (-1), .int 0, .int 0, .int 0, .int 0, .int 0, .int 0])]) h, n, s)) : hm_T (d + 1) 5 0 [.ref b] [] (hm_seg 4 (L ++ [.inr (3, [.int 0, .int 0, .int 0, .int 0, .int 0, .int 0, .int 0])]) h, n, s) Q := by
  refine r_aload_n k_5_0 rfl ?_
  refine r_obj m_5 k_5_1 cl_3_3 (Nat.le_of_ble_eq_true rfl) ?_
  refine r_aload_n k_5_4 rfl ?_
  refine r_iconst k_5_5 ci_m1 ?_
  refine r_put m_5 k_5_6 fl_3_9 (rS (i := 0) hb rfl) (Nat.le_of_ble_eq_true rfl) rfl rfl (wS (i := 0) hb (Nat.le_of_ble_eq_true rfl)) ?_
  exact hm_T.ret m_5 k_5_9 rfl hQ
set_option maxRecDepth 20000 in
theorem s_3 {d n s b : Nat} {L : List va_E} {h : Nat → Option va_E} {Q : Option Value → hm_H → Prop} (hb : 4 + L.length = b) (hn : n + 3 = b) (hQ : Q none (hm_seg 4 (L ++ [.inr (4, [.ref (b + 1)]), .inl (3, 6, .inr (.inr (.inr (.inr (fun i => if i < 6 then some (b + 2 + i) else none))))), .inl (0, 400, .inl (fun _ => 0)), .inl (0, 400, .inl (fun _ => 0)), .inl (0, 400, .inl (fun _ => 0)), .inl (0, 400, .inl (fun _ => 0)), .inl (0, 400, .inl (fun _ => 0)), .inl (0, 400, .inl (fun _ => 0))]) h, n + 7, s + 2406)) : hm_T (d + 1) 3 0 [.ref b] [] (hm_seg 4 (L ++ [.inr (4, [.null])]) h, n, s) Q := by
  subst hn
  refine r_aload_n k_3_0 rfl ?_
  refine r_obj m_3 k_3_1 cl_4_3 (Nat.le_of_ble_eq_true rfl) ?_
  refine r_aload_n k_3_4 rfl ?_
  refine r_bipush k_3_5 cb_6 ?_
  refine r_sipush k_3_7 cs_400 ?_
  refine r_mna_int (N := 6) (K := 400) m_3 k_3_10 nl_4_9 (by decide) (nI_clamp (by decide)) (by decide) (by decide) (nI_clamp (by decide)) (by decide) (gS (show n + 4 = 4 + L.length + 1 by omega)) ?_
  refine r_put m_3 k_3_14 fl_4_11 (rS (i := 0) hb rfl) (Nat.le_of_ble_eq_true rfl) rfl rfl (wS (i := 0) hb (Nat.le_of_ble_eq_true rfl)) ?_
  exact hm_T.ret m_3 k_3_17 rfl hQ
set_option maxRecDepth 20000 in
theorem s_2 {d n s b : Nat} {L : List va_E} {h : Nat → Option va_E} {Q : Option Value → hm_H → Prop} (hb : 4 + L.length = b) (hn : n + 3 = b) (hQ : Q none (hm_seg 4 (L ++ [.inr (0, [.ref (b + 1), .int (nI 0), .ref (b + 2), .ref (b + 3), .ref (b + 4), .int (nI 0), .ref (b + 5)]), .inl (0, 12, .inl (fun _ => 0)), .inl (0, 4, .inl (fun _ => 0)), .inl (0, 4, .inl (fun _ => 0)), .inl (0, 4, .inl (fun _ => 0)), .inl (4, 4, .inr (.inr (.inr (.inr (fun i => if i < 4 then some (b + 6 + i) else none))))), .inl (1, 64, .inr (.inl (fun _ => 0))), .inl (1, 64, .inr (.inl (fun _ => 0))), .inl (1, 64, .inr (.inl (fun _ => 0))), .inl (1, 64, .inr (.inl (fun _ => 0)))]) h, n + 9, s + 284)) : hm_T (d + 1) 2 0 [.ref b] [] (hm_seg 4 (L ++ [.inr (0, [.null, .int 0, .null, .null, .null, .int 0, .null])]) h, n, s) Q := by
  subst hn
  refine r_aload_n k_2_0 rfl ?_
  refine r_obj m_2 k_2_1 cl_0_5 (Nat.le_of_ble_eq_true rfl) ?_
  refine r_aload_n k_2_4 rfl ?_
  refine r_bipush k_2_5 cb_12 ?_
  refine r_newa_int (N := 12) k_2_7 (by decide) (nI_clamp (by decide)) (by decide) (pS (show n + 0 + 4 = 4 + L.length + 1 by omega)) ?_
  refine r_put m_2 k_2_9 fl_0_11 (rS (i := 0) hb rfl) (Nat.le_of_ble_eq_true rfl) rfl rfl (wS (i := 0) hb (Nat.le_of_ble_eq_true rfl)) ?_
  refine r_aload_n k_2_12 rfl ?_
  refine r_iconst k_2_13 ci_0 ?_
  refine r_put m_2 k_2_14 fl_0_15 (rS (i := 0) hb rfl) (Nat.le_of_ble_eq_true rfl) rfl rfl (wS (i := 0) hb (Nat.le_of_ble_eq_true rfl)) ?_
  refine r_aload_n k_2_17 rfl ?_
  refine r_iconst k_2_18 ci_4 ?_
  refine r_newa_int (N := 4) k_2_19 (by decide) (nI_clamp (by decide)) (by decide) (pS (show n + 1 + 4 = 4 + L.length + 2 by omega)) ?_
  refine r_put m_2 k_2_21 fl_0_19 (rS (i := 0) hb rfl) (Nat.le_of_ble_eq_true rfl) rfl rfl (wS (i := 0) hb (Nat.le_of_ble_eq_true rfl)) ?_
  refine r_aload_n k_2_24 rfl ?_
  refine r_iconst k_2_25 ci_4 ?_
  refine r_newa_int (N := 4) k_2_26 (by decide) (nI_clamp (by decide)) (by decide) (pS (show n + 2 + 4 = 4 + L.length + 3 by omega)) ?_
  refine r_put m_2 k_2_28 fl_0_22 (rS (i := 0) hb rfl) (Nat.le_of_ble_eq_true rfl) rfl rfl (wS (i := 0) hb (Nat.le_of_ble_eq_true rfl)) ?_
  refine r_aload_n k_2_31 rfl ?_
  refine r_iconst k_2_32 ci_4 ?_
  refine r_newa_int (N := 4) k_2_33 (by decide) (nI_clamp (by decide)) (by decide) (pS (show n + 3 + 4 = 4 + L.length + 4 by omega)) ?_
  refine r_put m_2 k_2_35 fl_0_25 (rS (i := 0) hb rfl) (Nat.le_of_ble_eq_true rfl) rfl rfl (wS (i := 0) hb (Nat.le_of_ble_eq_true rfl)) ?_
  refine r_aload_n k_2_38 rfl ?_
  refine r_iconst k_2_39 ci_0 ?_
  refine r_put m_2 k_2_40 fl_0_28 (rS (i := 0) hb rfl) (Nat.le_of_ble_eq_true rfl) rfl rfl (wS (i := 0) hb (Nat.le_of_ble_eq_true rfl)) ?_
  refine r_aload_n k_2_43 rfl ?_
  refine r_iconst k_2_44 ci_4 ?_
  refine r_bipush k_2_45 cb_64 ?_
  refine r_mna_long (N := 4) (K := 64) m_2 k_2_47 nl_0_31 (by decide) (nI_clamp (by decide)) (by decide) (by decide) (nI_clamp (by decide)) (by decide) (gS (show n + 4 + 4 = 4 + L.length + 5 by omega)) ?_
  refine r_put m_2 k_2_51 fl_0_33 (rS (i := 0) hb rfl) (Nat.le_of_ble_eq_true rfl) rfl rfl (wS (i := 0) hb (Nat.le_of_ble_eq_true rfl)) ?_
  exact hm_T.ret m_2 k_2_54 rfl hQ
set_option maxRecDepth 20000 in
theorem s_11 {d : Nat} {hp : hm_H} {Q : Option Value → hm_H → Prop} {b : Nat} (hQ : Q none hp) : hm_T (d + 1) 11 0 [.ref b] [] hp Q := by
  refine r_aload_n k_11_0 rfl ?_
  refine r_obj m_11 k_11_1 cl_13_1 (Nat.le_of_ble_eq_true rfl) ?_
  exact hm_T.ret m_11 k_11_4 rfl hQ
set_option maxRecDepth 20000 in
theorem s_9 {d n s b : Nat} {L : List va_E} {h : Nat → Option va_E} {Q : Option Value → hm_H → Prop} (hb : 4 + L.length = b) (hQ : Q none (hm_seg 4 (L ++ [.inr (9, [.int (nI 0), .ref 3, .int 0])]) h, n, s)) : hm_T (d + 3) 9 0 [.ref b] [] (hm_seg 4 (L ++ [.inr (9, [.int 0, .null, .int 0])]) h, n, s) Q := by
  refine r_aload_n k_9_0 rfl ?_
  refine r_calli1 m_9 k_9_1 cl_9_1 m_10 (by decide) rfl rfl (Nat.le_of_ble_eq_true rfl) (Nat.le_of_ble_eq_true rfl) ?_
  refine r_aload_n k_10_0 rfl ?_
  refine r_calli1 m_10 k_10_1 cl_12_1 m_11 (by decide) rfl rfl (Nat.le_of_ble_eq_true rfl) (Nat.le_of_ble_eq_true rfl) ?_
  refine s_11 ?_
  refine r_aload_n k_10_4 rfl ?_
  refine r_iconst k_10_5 ci_0 ?_
  refine r_put m_10 k_10_6 fl_12_7 (rS (i := 0) hb rfl) (Nat.le_of_ble_eq_true rfl) rfl rfl (wS (i := 0) hb (Nat.le_of_ble_eq_true rfl)) ?_
  refine hm_T.ret m_10 k_10_9 rfl ?_
  refine r_aload_n k_9_4 rfl ?_
  refine r_gets m_9 k_9_5 sl_9_39 ?_
  refine r_put m_9 k_9_8 fl_9_9 (rS (i := 0) hb rfl) (Nat.le_of_ble_eq_true rfl) rfl rfl (wS (i := 0) hb (Nat.le_of_ble_eq_true rfl)) ?_
  exact hm_T.ret m_9 k_9_11 rfl hQ
def hc_r0 : Nat → Int32 := upd (upd (hc_fz (nI 0) 5 0 (fun _ => 0)) 1 (-1)) 2 (-1)
set_option maxRecDepth 20000 in
theorem s_7x {d n s : Nat} {L : List va_E} {h : Nat → Option va_E} {Q : Option Value → hm_H → Prop} (hb : 4 + L.length = n + 3) {N : Nat} (hQ : Q none (hm_seg 4 (L ++ [.inr (2, [.ref (n + 4)]), .inl (3, 4, .inr (.inr (.inr (.inr (fun i => if i < 4 then some (n + 5 + i) else none))))), .inl (0, 5, .inl hc_r0), .inl (0, 5, .inl hc_r0), .inl (0, 5, .inl hc_r0), .inl (0, 5, .inl hc_r0)]) h, N, s)) : hm_T (d + 1) 7 0 [.ref (n + 3), .retAddr 0] [] (hm_seg 4 (L ++ [.inr (2, [.ref (n + 4)]), .inl (3, 4, .inr (.inr (.inr (.inr (fun i => if i < 4 then some (n + 5 + i) else none))))), .inl (0, 5, .inl (fun _ => 0)), .inl (0, 5, .inl (fun _ => 0)), .inl (0, 5, .inl (fun _ => 0)), .inl (0, 5, .inl (fun _ => 0))]) h, N, s) Q := by
  refine r_iconst k_7_0 ci_0 ?_
  refine r_istore_n k_7_1 rfl ?_
  refine r_iload_n k_7_2 rfl ?_
  refine r_iconst k_7_3 ci_4 ?_
  refine r_icmp_ge k_7_4 rfl (fun z => absurd z (by decide)) (fun c_4 => ?_)
  refine r_aload_n k_7_7 rfl ?_
  refine r_get m_7 k_7_8 fl_2_11 (rS (i := 0) hb rfl) rfl ?_
  refine r_iload_n k_7_11 rfl ?_
  refine r_aaldn (k := 0) k_7_12 (rS (i := 1) hb rfl) (by decide) rfl (by decide) (by decide) rfl ?_
  refine r_iconst k_7_13 ci_0 ?_
  refine r_calls2 m_7 k_7_14 cl_2_19 m_8 (by decide) rfl rfl (Nat.le_of_ble_eq_true rfl) (Nat.le_of_ble_eq_true rfl) ?_
  refine s_8x (N := 5) (by decide) (rS (i := 2) hb rfl) ?_
  rw [wS (i := 2) hb (Nat.le_of_ble_eq_true rfl)]
  refine r_aload_n k_7_17 rfl ?_
  refine r_get m_7 k_7_18 fl_2_11 (rS (i := 0) hb rfl) rfl ?_
  refine r_iload_n k_7_21 rfl ?_
  refine r_aaldn (k := 0) k_7_22 (rS (i := 1) hb rfl) (by decide) rfl (by decide) (by decide) rfl ?_
  refine r_iconst k_7_23 ci_1 ?_
  refine r_iconst k_7_24 ci_m1 ?_
  refine r_iastn (k := 1) k_7_25 (rS (i := 2) hb rfl) rfl rfl (by decide) (by decide) (wS (i := 2) hb (Nat.le_of_ble_eq_true rfl)) ?_
  refine r_aload_n k_7_26 rfl ?_
  refine r_get m_7 k_7_27 fl_2_11 (rS (i := 0) hb rfl) rfl ?_
  refine r_iload_n k_7_30 rfl ?_
  refine r_aaldn (k := 0) k_7_31 (rS (i := 1) hb rfl) (by decide) rfl (by decide) (by decide) rfl ?_
  refine r_iconst k_7_32 ci_2 ?_
  refine r_iconst k_7_33 ci_m1 ?_
  refine r_iastn (k := 2) k_7_34 (rS (i := 2) hb rfl) rfl rfl (by decide) (by decide) (wS (i := 2) hb (Nat.le_of_ble_eq_true rfl)) ?_
  refine r_iinc k_7_35 rfl rfl ?_
  refine r_goto k_7_38 rfl ?_
  refine r_iload_n k_7_2 rfl ?_
  refine r_iconst k_7_3 ci_4 ?_
  refine r_icmp_ge k_7_4 rfl (fun z => absurd z (by decide)) (fun c_4 => ?_)
  refine r_aload_n k_7_7 rfl ?_
  refine r_get m_7 k_7_8 fl_2_11 (rS (i := 0) hb rfl) rfl ?_
  refine r_iload_n k_7_11 rfl ?_
  refine r_aaldn (k := 1) k_7_12 (rS (i := 1) hb rfl) (by decide) rfl (by decide) (by decide) rfl ?_
  refine r_iconst k_7_13 ci_0 ?_
  refine r_calls2 m_7 k_7_14 cl_2_19 m_8 (by decide) rfl rfl (Nat.le_of_ble_eq_true rfl) (Nat.le_of_ble_eq_true rfl) ?_
  refine s_8x (N := 5) (by decide) (rS (i := 3) hb rfl) ?_
  rw [wS (i := 3) hb (Nat.le_of_ble_eq_true rfl)]
  refine r_aload_n k_7_17 rfl ?_
  refine r_get m_7 k_7_18 fl_2_11 (rS (i := 0) hb rfl) rfl ?_
  refine r_iload_n k_7_21 rfl ?_
  refine r_aaldn (k := 1) k_7_22 (rS (i := 1) hb rfl) (by decide) rfl (by decide) (by decide) rfl ?_
  refine r_iconst k_7_23 ci_1 ?_
  refine r_iconst k_7_24 ci_m1 ?_
  refine r_iastn (k := 1) k_7_25 (rS (i := 3) hb rfl) rfl rfl (by decide) (by decide) (wS (i := 3) hb (Nat.le_of_ble_eq_true rfl)) ?_
  refine r_aload_n k_7_26 rfl ?_
  refine r_get m_7 k_7_27 fl_2_11 (rS (i := 0) hb rfl) rfl ?_
  refine r_iload_n k_7_30 rfl ?_
  refine r_aaldn (k := 1) k_7_31 (rS (i := 1) hb rfl) (by decide) rfl (by decide) (by decide) rfl ?_
  refine r_iconst k_7_32 ci_2 ?_
  refine r_iconst k_7_33 ci_m1 ?_
  refine r_iastn (k := 2) k_7_34 (rS (i := 3) hb rfl) rfl rfl (by decide) (by decide) (wS (i := 3) hb (Nat.le_of_ble_eq_true rfl)) ?_
  refine r_iinc k_7_35 rfl rfl ?_
  refine r_goto k_7_38 rfl ?_
  refine r_iload_n k_7_2 rfl ?_
  refine r_iconst k_7_3 ci_4 ?_
  refine r_icmp_ge k_7_4 rfl (fun z => absurd z (by decide)) (fun c_4 => ?_)
  refine r_aload_n k_7_7 rfl ?_
  refine r_get m_7 k_7_8 fl_2_11 (rS (i := 0) hb rfl) rfl ?_
  refine r_iload_n k_7_11 rfl ?_
  refine r_aaldn (k := 2) k_7_12 (rS (i := 1) hb rfl) (by decide) rfl (by decide) (by decide) rfl ?_
  refine r_iconst k_7_13 ci_0 ?_
  refine r_calls2 m_7 k_7_14 cl_2_19 m_8 (by decide) rfl rfl (Nat.le_of_ble_eq_true rfl) (Nat.le_of_ble_eq_true rfl) ?_
  refine s_8x (N := 5) (by decide) (rS (i := 4) hb rfl) ?_
  rw [wS (i := 4) hb (Nat.le_of_ble_eq_true rfl)]
  refine r_aload_n k_7_17 rfl ?_
  refine r_get m_7 k_7_18 fl_2_11 (rS (i := 0) hb rfl) rfl ?_
  refine r_iload_n k_7_21 rfl ?_
  refine r_aaldn (k := 2) k_7_22 (rS (i := 1) hb rfl) (by decide) rfl (by decide) (by decide) rfl ?_
  refine r_iconst k_7_23 ci_1 ?_
  refine r_iconst k_7_24 ci_m1 ?_
  refine r_iastn (k := 1) k_7_25 (rS (i := 4) hb rfl) rfl rfl (by decide) (by decide) (wS (i := 4) hb (Nat.le_of_ble_eq_true rfl)) ?_
  refine r_aload_n k_7_26 rfl ?_
  refine r_get m_7 k_7_27 fl_2_11 (rS (i := 0) hb rfl) rfl ?_
  refine r_iload_n k_7_30 rfl ?_
  refine r_aaldn (k := 2) k_7_31 (rS (i := 1) hb rfl) (by decide) rfl (by decide) (by decide) rfl ?_
  refine r_iconst k_7_32 ci_2 ?_
  refine r_iconst k_7_33 ci_m1 ?_
  refine r_iastn (k := 2) k_7_34 (rS (i := 4) hb rfl) rfl rfl (by decide) (by decide) (wS (i := 4) hb (Nat.le_of_ble_eq_true rfl)) ?_
  refine r_iinc k_7_35 rfl rfl ?_
  refine r_goto k_7_38 rfl ?_
  refine r_iload_n k_7_2 rfl ?_
  refine r_iconst k_7_3 ci_4 ?_
  refine r_icmp_ge k_7_4 rfl (fun z => absurd z (by decide)) (fun c_4 => ?_)
  refine r_aload_n k_7_7 rfl ?_
  refine r_get m_7 k_7_8 fl_2_11 (rS (i := 0) hb rfl) rfl ?_
  refine r_iload_n k_7_11 rfl ?_
  refine r_aaldn (k := 3) k_7_12 (rS (i := 1) hb rfl) (by decide) rfl (by decide) (by decide) rfl ?_
  refine r_iconst k_7_13 ci_0 ?_
  refine r_calls2 m_7 k_7_14 cl_2_19 m_8 (by decide) rfl rfl (Nat.le_of_ble_eq_true rfl) (Nat.le_of_ble_eq_true rfl) ?_
  refine s_8x (N := 5) (by decide) (rS (i := 5) hb rfl) ?_
  rw [wS (i := 5) hb (Nat.le_of_ble_eq_true rfl)]
  refine r_aload_n k_7_17 rfl ?_
  refine r_get m_7 k_7_18 fl_2_11 (rS (i := 0) hb rfl) rfl ?_
  refine r_iload_n k_7_21 rfl ?_
  refine r_aaldn (k := 3) k_7_22 (rS (i := 1) hb rfl) (by decide) rfl (by decide) (by decide) rfl ?_
  refine r_iconst k_7_23 ci_1 ?_
  refine r_iconst k_7_24 ci_m1 ?_
  refine r_iastn (k := 1) k_7_25 (rS (i := 5) hb rfl) rfl rfl (by decide) (by decide) (wS (i := 5) hb (Nat.le_of_ble_eq_true rfl)) ?_
  refine r_aload_n k_7_26 rfl ?_
  refine r_get m_7 k_7_27 fl_2_11 (rS (i := 0) hb rfl) rfl ?_
  refine r_iload_n k_7_30 rfl ?_
  refine r_aaldn (k := 3) k_7_31 (rS (i := 1) hb rfl) (by decide) rfl (by decide) (by decide) rfl ?_
  refine r_iconst k_7_32 ci_2 ?_
  refine r_iconst k_7_33 ci_m1 ?_
  refine r_iastn (k := 2) k_7_34 (rS (i := 5) hb rfl) rfl rfl (by decide) (by decide) (wS (i := 5) hb (Nat.le_of_ble_eq_true rfl)) ?_
  refine r_iinc k_7_35 rfl rfl ?_
  refine r_goto k_7_38 rfl ?_
  refine r_iload_n k_7_2 rfl ?_
  refine r_iconst k_7_3 ci_4 ?_
  refine r_icmp_ge k_7_4 rfl (fun c_4 => ?_) (fun z => absurd (by decide) z)
  exact hm_T.ret m_7 k_7_41 rfl hQ
set_option maxRecDepth 20000 in
theorem s_6 {d n s b : Nat} {L : List va_E} {h : Nat → Option va_E} {Q : Option Value → hm_H → Prop} (hb : 4 + L.length = b) (hn : n + 3 = b) (hQ : Q none (hm_seg 4 (L ++ [.inr (2, [.ref (n + 4)]), .inl (3, 4, .inr (.inr (.inr (.inr (fun i => if i < 4 then some (n + 5 + i) else none))))), .inl (0, 5, .inl hc_r0), .inl (0, 5, .inl hc_r0), .inl (0, 5, .inl hc_r0), .inl (0, 5, .inl hc_r0)]) h, n + 5, s + 24)) : hm_T (d + 2) 6 0 [.ref b] [] (hm_seg 4 (L ++ [.inr (2, [.null])]) h, n, s) Q := by
  subst hn
  refine r_aload_n k_6_0 rfl ?_
  refine r_obj m_6 k_6_1 cl_2_3 (Nat.le_of_ble_eq_true rfl) ?_
  refine r_aload_n k_6_4 rfl ?_
  refine r_iconst k_6_5 ci_4 ?_
  refine r_iconst k_6_6 ci_5 ?_
  refine r_mna_int (N := 4) (K := 5) m_6 k_6_7 nl_2_9 (by decide) (nI_clamp (by decide)) (by decide) (by decide) (nI_clamp (by decide)) (by decide) (gS (show n + 4 = 4 + L.length + 1 by omega)) ?_
  refine r_put m_6 k_6_11 fl_2_11 (rS (i := 0) hb rfl) (Nat.le_of_ble_eq_true rfl) rfl rfl (wS (i := 0) hb (Nat.le_of_ble_eq_true rfl)) ?_
  refine r_aload_n k_6_14 rfl ?_
  refine r_callv1 m_6 k_6_15 cl_2_16 m_7 (by decide) rfl rfl (Nat.le_of_ble_eq_true rfl) (Nat.le_of_ble_eq_true rfl) (rS (i := 0) hb rfl) rfl ?_
  refine s_7x hb ?_
  exact hm_T.ret m_6 k_6_18 rfl hQ
