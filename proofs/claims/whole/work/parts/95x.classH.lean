set_option maxRecDepth 20000 in
theorem s_91 {d : Nat} {hp : hm_H} {Q : Option Value → hm_H → Prop} {x : Int32} (hQ : Q (some (.int (hc_bc x))) hp) : hm_T d 91 0 [.int x] [] hp Q := by
  refine r_iload_n k_91_0 rfl ?_
  refine r_iload_n k_91_1 rfl ?_
  refine r_iconst k_91_2 ci_1 ?_
  refine r_iushr k_91_3 ?_
  refine r_ldc_w m_91 k_91_4 il_18_265 ?_
  refine r_iand k_91_7 ?_
  refine r_isub k_91_8 ?_
  refine r_istore_n k_91_9 rfl ?_
  refine r_iload_n k_91_10 rfl ?_
  refine r_ldc_w m_91 k_91_11 il_18_266 ?_
  refine r_iand k_91_14 ?_
  refine r_iload_n k_91_15 rfl ?_
  refine r_iconst k_91_16 ci_2 ?_
  refine r_iushr k_91_17 ?_
  refine r_ldc_w m_91 k_91_18 il_18_266 ?_
  refine r_iand k_91_21 ?_
  refine r_iadd k_91_22 ?_
  refine r_istore_n k_91_23 rfl ?_
  refine r_iload_n k_91_24 rfl ?_
  refine r_iload_n k_91_25 rfl ?_
  refine r_iconst k_91_26 ci_4 ?_
  refine r_iushr k_91_27 ?_
  refine r_iadd k_91_28 ?_
  refine r_ldc_w m_91 k_91_29 il_18_267 ?_
  refine r_iand k_91_32 ?_
  refine r_istore_n k_91_33 rfl ?_
  refine r_iload_n k_91_34 rfl ?_
  refine r_iload_n k_91_35 rfl ?_
  refine r_bipush k_91_36 cb_8 ?_
  refine r_iushr k_91_38 ?_
  refine r_iadd k_91_39 ?_
  refine r_istore_n k_91_40 rfl ?_
  refine r_iload_n k_91_41 rfl ?_
  refine r_iload_n k_91_42 rfl ?_
  refine r_bipush k_91_43 cb_16 ?_
  refine r_iushr k_91_45 ?_
  refine r_iadd k_91_46 ?_
  refine r_istore_n k_91_47 rfl ?_
  refine r_iload_n k_91_48 rfl ?_
  refine r_bipush k_91_49 cb_63 ?_
  refine r_iand k_91_51 ?_
  exact hm_T.ret m_91 k_91_52 rfl hQ
theorem hm_cnt_le {P P2 : Nat → Bool} : ∀ n, (∀ i, i < n → P i = true → P2 i = true) → hm_cnt P n ≤ hm_cnt P2 n := by
  intro n
  induction n with
  | zero => intro _; exact Nat.le_refl _
  | succ n ih =>
    intro h
    have e := ih (fun i hi => h i (by omega))
    show hm_cnt P n + (if P n = true then 1 else 0) ≤ hm_cnt P2 n + (if P2 n = true then 1 else 0)
    by_cases h1 : P n = true
    · rw [if_pos h1, if_pos (h n (by omega) h1)]; omega
    · rw [if_neg h1]; split <;> omega
theorem hm_cnt_cg {P P2 : Nat → Bool} : ∀ n, (∀ i, i < n → P i = P2 i) → hm_cnt P n = hm_cnt P2 n := by
  intro n h
  exact Nat.le_antisymm (hm_cnt_le n (fun i hi h1 => by rw [← h i hi]; exact h1)) (hm_cnt_le n (fun i hi h1 => by rw [h i hi]; exact h1))
theorem hm_cnt_in {P P2 : Nat → Bool} {a : Nat} (h0 : P a = false) (h1 : P2 a = true) (hh : ∀ i, ¬ i = a → P i = P2 i) : ∀ n, a < n → hm_cnt P2 n = hm_cnt P n + 1 := by
  intro n
  induction n with
  | zero => intro h; omega
  | succ n ih =>
    intro h
    show hm_cnt P2 n + (if P2 n = true then 1 else 0) = hm_cnt P n + (if P n = true then 1 else 0) + 1
    by_cases hn : n = a
    · subst hn
      rw [if_pos h1, if_neg (by rw [h0]; decide), hm_cnt_cg n (fun i hi => (hh i (by omega)).symm)]
    · rw [ih (by omega), hh n hn]
      omega
theorem hc_pc_or {x : Int32} {a : Nat} (ha : a < 12) (h : hm_has x (nI a) = false) : hc_pc (x ||| nI 1 <<< (nI a &&& 31)) = hc_pc x + 1 := by
  have e : hc_pc (x ||| nI 1 <<< (nI a &&& 31)) = hm_cnt (fun i => if i < 12 then hm_has (x ||| nI 1 <<< (nI a &&& 31)) (nI i) else hm_has x (nI i)) 12 := hm_cnt_cg 12 (fun i hi => (if_pos hi).symm)
  rw [e]
  refine hm_cnt_in h ?_ (fun i hi => ?_) 12 ha
  · show (if a < 12 then _ else _) = true
    rw [if_pos ha, hc_has_or _ _ a (by omega), hc_has_1 a a (by omega) (by omega), decide_eq_true rfl, Bool.or_true]
  · show _ = (if i < 12 then _ else _)
    by_cases h2 : i < 12
    · rw [if_pos h2, hc_has_or _ _ i (by omega), hc_has_1 a i (by omega) (by omega), decide_eq_false hi, Bool.or_false]
    · rw [if_neg h2]
theorem hc_pc_rm {x : Int32} {a : Nat} (ha : a < 12) (h : hm_has x (nI a) = true) : hc_pc x = hc_pc (x &&& (nI 1 <<< (nI a &&& 31) ^^^ (-1))) + 1 := by
  have e : hc_pc x = hm_cnt (fun i => if i < 12 then hm_has x (nI i) else hm_has (x &&& (nI 1 <<< (nI a &&& 31) ^^^ (-1))) (nI i)) 12 := hm_cnt_cg 12 (fun i hi => (if_pos hi).symm)
  rw [e]
  refine hm_cnt_in ?_ ?_ (fun i hi => ?_) 12 ha
  · show hm_has _ _ = false
    rw [hc_has_and _ _ a (by omega), hc_has_not _ a (by omega), hc_has_1 a a (by omega) (by omega), decide_eq_true rfl, Bool.not_true, Bool.and_false]
  · show (if a < 12 then _ else _) = true
    rw [if_pos ha, h]
  · show _ = (if i < 12 then _ else _)
    by_cases h2 : i < 12
    · show hm_has _ _ = _
      rw [if_pos h2, hc_has_and _ _ i (by omega), hc_has_not _ i (by omega), hc_has_1 a i (by omega) (by omega), decide_eq_false hi, Bool.not_false, Bool.and_true]
    · rw [if_neg h2]
theorem hc_pc_and {x y : Int32} : hc_pc (x &&& y) ≤ hc_pc x := hm_cnt_le 12 (fun i hi h => by
  rw [hc_has_and _ _ i (by omega)] at h
  cases hx : hm_has x (nI i) with
  | true => rfl
  | false => rw [hx] at h; cases h)
theorem hc_pc_0 {x : Int32} (h : ∀ i, i < 12 → hm_has x (nI i) = false) : hc_pc x = 0 := by
  have e : hc_pc x = hm_cnt (fun _ => false) 12 := hm_cnt_cg 12 h
  rw [e]
  rfl
theorem hc_pc_z {x : Int32} {i : Nat} (hi : i < 12) (h : hc_pc x = 0) : hm_has x (nI i) = false := by
  cases hx : hm_has x (nI i) with
  | false => rfl
  | true =>
    have e := hc_pc_rm hi hx
    omega
def hc_abs (x : Int32) : Int32 := if 0 ≤ x then x else -x
def hc_lkh (ht : Nat → Int32) (sp : Int32) (one : Nat) : Nat → Int32
  | 0 => nI 0
  | i + 1 => hc_lkh ht sp one i ||| (if hc_abs (ht i - ht one) ≤ sp then nI 1 <<< (nI i &&& 31) else nI 0)
set_option maxRecDepth 20000 in
theorem l_92 {d n s : Nat} {k : hm_M} {ad : hm_AD} {w : hm_W} {h : Nat → Option va_E} {Q : Option Value → hm_H → Prop} {nb one : Nat} {sp : Int32} (hb : k 2 0 = nI nb) (hb12 : nb ≤ 12) (ho : one < nb) (hQ : Q (some (.int (hc_lkh (k 3) sp one nb))) (hm_hC k ad w h n s)) : ∀ (j i : Nat), i + j = nb → hm_T (d + 1) 92 5 [.ref 7, .int (nI one), .int sp, .int (hc_lkh (k 3) sp one i), .int (nI i)] [] (hm_hC k ad w h n s) Q := by
  intro j
  induction j with
  | zero =>
    intro i hi
    refine r_iload k_92_5 rfl ?_
    refine r_aload_n k_92_7 rfl ?_
    refine r_get m_92 k_92_8 fl_0_15 rfl rfl ?_
    rw [hb]
    refine r_icmp_ge k_92_11 rfl (fun c_11 => ?_) (fun z => absurd (nI_le (show nb ≤ i by omega) (by omega)) z)
    refine r_iload_n k_92_52 rfl ?_
    exact hm_T.ret m_92 k_92_53 rfl (by rw [show nb = i by omega] at hQ; exact hQ)
  | succ j ih =>
    intro i hi
    refine r_iload k_92_5 rfl ?_
    refine r_aload_n k_92_7 rfl ?_
    refine r_get m_92 k_92_8 fl_0_15 rfl rfl ?_
    rw [hb]
    refine r_icmp_ge k_92_11 rfl (fun z => absurd z (nI_ge (show i < nb by omega) (by omega))) (fun c_11 => ?_)
    refine r_iload_n k_92_14 rfl ?_
    refine r_aload_n k_92_15 rfl ?_
    refine r_get m_92 k_92_16 fl_0_11 rfl rfl ?_
    refine r_iload k_92_19 rfl ?_
    refine r_ialdn (k := i) k_92_21 rfl (Or.inl rfl) rfl (by omega) (by decide) ?_
    refine r_aload_n k_92_22 rfl ?_
    refine r_get m_92 k_92_23 fl_0_11 rfl rfl ?_
    refine r_iload_n k_92_26 rfl ?_
    refine r_ialdn (k := one) k_92_27 rfl (Or.inl rfl) rfl (by omega) (by decide) ?_
    refine r_isub k_92_28 ?_
    refine r_calls1 m_92 k_92_29 cl_0_63 m_93 (by decide) rfl rfl (Nat.le_of_ble_eq_true rfl) (Nat.le_of_ble_eq_true rfl) ?_
    refine s_93 ?_
    refine r_iload_n k_92_32 rfl ?_
    refine r_icmp_gt k_92_33 rfl (fun c_33 => ?_) (fun c_33 => ?_)
    · refine r_iconst k_92_43 ci_0 ?_
      refine r_ior k_92_44 ?_
      refine r_istore_n k_92_45 rfl ?_
      refine r_iincn k_92_46 rfl (nI_inc i) rfl ?_
      refine r_goto k_92_49 rfl ?_
      have e := ih (i + 1) (by omega)
      rw [show hc_lkh (k 3) sp one (i + 1) = hc_lkh (k 3) sp one i ||| (if hc_abs (k 3 i - k 3 one) ≤ sp then nI 1 <<< (nI i &&& 31) else nI 0) from rfl, if_neg (show ¬ hc_abs (k 3 i - k 3 one) ≤ sp from Int32.not_le.mpr c_33)] at e
      exact e
    · refine r_iconst k_92_36 ci_1 ?_
      refine r_iload k_92_37 rfl ?_
      refine r_ishl k_92_39 ?_
      refine r_goto k_92_40 rfl ?_
      refine r_ior k_92_44 ?_
      refine r_istore_n k_92_45 rfl ?_
      refine r_iincn k_92_46 rfl (nI_inc i) rfl ?_
      refine r_goto k_92_49 rfl ?_
      have e := ih (i + 1) (by omega)
      rw [show hc_lkh (k 3) sp one (i + 1) = hc_lkh (k 3) sp one i ||| (if hc_abs (k 3 i - k 3 one) ≤ sp then nI 1 <<< (nI i &&& 31) else nI 0) from rfl, if_pos (show hc_abs (k 3 i - k 3 one) ≤ sp from Int32.not_lt.mp c_33)] at e
      exact e
set_option maxRecDepth 20000 in
theorem s_92 {d n s : Nat} {k : hm_M} {ad : hm_AD} {w : hm_W} {h : Nat → Option va_E} {Q : Option Value → hm_H → Prop} {nb one : Nat} {sp : Int32} (hb : k 2 0 = nI nb) (hb12 : nb ≤ 12) (ho : one < nb) (hQ : Q (some (.int (hc_lkh (k 3) sp one nb))) (hm_hC k ad w h n s)) : hm_T (d + 1) 92 0 [.ref 7, .int (nI one), .int sp, .retAddr 0, .retAddr 0] [] (hm_hC k ad w h n s) Q := by
  refine r_iconst k_92_0 ci_0 ?_
  refine r_istore_n k_92_1 rfl ?_
  refine r_iconst k_92_2 ci_0 ?_
  refine r_istore k_92_3 rfl ?_
  exact l_92 hb hb12 ho hQ nb 0 (by omega)
