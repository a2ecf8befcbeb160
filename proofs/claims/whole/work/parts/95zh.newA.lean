/-! NEW CELLS -/
theorem hm_up_s {h : Nat → Option va_E} {a : Nat} {e : va_E} : hm_up h a e a = some e := if_pos rfl
theorem hm_up_o {h : Nat → Option va_E} {a b : Nat} {e : va_E} (hb : ¬ b = a) : hm_up h a e b = h b := if_neg hb
theorem hm_up_up {h : Nat → Option va_E} {a : Nat} {e e2 : va_E} : hm_up (hm_up h a e) a e2 = hm_up h a e2 := by
  funext j
  show (if j = a then some e2 else if j = a then some e else h j) = (if j = a then some e2 else h j)
  by_cases hj : j = a
  · rw [if_pos hj, if_pos hj]
  · rw [if_neg hj, if_neg hj, if_neg hj]
theorem hm_up_sw {h : Nat → Option va_E} {a b : Nat} {e e2 : va_E} (hab : ¬ a = b) : hm_up (hm_up h a e) b e2 = hm_up (hm_up h b e2) a e := by
  funext j
  show (if j = b then some e2 else if j = a then some e else h j) = (if j = a then some e else if j = b then some e2 else h j)
  by_cases hj : j = a
  · subst hj
    rw [if_neg hab, if_pos rfl, if_pos rfl]
  · rw [if_neg hj, if_neg hj]
section NF
variable {k : hm_M} {ad : hm_AD} {w : hm_W} {h : Nat → Option va_E} {n s a : Nat} {e : va_E}
theorem hm_pushF {m : Nat} (hn : 57 ≤ n) : hm_push (hm_hC k ad w h n s) e m = hm_hC k ad w (hm_up h (n + 4) e) (n + 1) (s + m) := by
  have e1 := congrArg Prod.fst (hm_seg_far (a := 4) (b := n + 4) (n := n) (s := s) (L := hm_cC k ad w) (h := h) (e := e) (Or.inr (show 4 + 57 ≤ n + 4 by omega)))
  show (hm_up (hm_seg 4 (hm_cC k ad w) h) (n + 4) e, n + 1, s + m) = _
  exact congrArg (fun x => (x, n + 1, s + m)) e1
theorem wF (ha : 61 ≤ a) : hm_set (hm_hC k ad w h n s) a e = hm_hC k ad w (hm_up h a e) n s := hm_seg_far (Or.inr (show 4 + 57 ≤ a by omega))
theorem rF (ha : 61 ≤ a) : (hm_hC k ad w h n s).1 a = h a := hm_seg_out (Or.inr (show 4 + 57 ≤ a by omega))
def hc_u2 (h : Nat → Option va_E) (a : Nat) (O A : va_E) : Nat → Option va_E := hm_up (hm_up h a O) (a + 1) A
def hc_u3 (h : Nat → Option va_E) (a : Nat) (O A B : va_E) : Nat → Option va_E := hm_up (hc_u2 h a O A) (a + 2) B
variable {O A B O2 : va_E}
theorem r1o (ha : 61 ≤ a) : (hm_hC k ad w (hm_up h a O) n s).1 a = some O := (rF ha).trans hm_up_s
theorem w1o (ha : 61 ≤ a) : hm_set (hm_hC k ad w (hm_up h a O) n s) a O2 = hm_hC k ad w (hm_up h a O2) n s := (wF ha).trans (by rw [hm_up_up])
theorem r2o (ha : 61 ≤ a) : (hm_hC k ad w (hc_u2 h a O A) n s).1 a = some O := (rF ha).trans ((hm_up_o (by omega)).trans hm_up_s)
theorem w2o (ha : 61 ≤ a) : hm_set (hm_hC k ad w (hc_u2 h a O A) n s) a O2 = hm_hC k ad w (hc_u2 h a O2 A) n s := (wF ha).trans (by unfold hc_u2; rw [hm_up_sw (show ¬ a + 1 = a by omega), hm_up_up])
theorem r3o (ha : 61 ≤ a) : (hm_hC k ad w (hc_u3 h a O A B) n s).1 a = some O := (rF ha).trans ((hm_up_o (by omega)).trans ((hm_up_o (by omega)).trans hm_up_s))
theorem r3a (ha : 61 ≤ a) : (hm_hC k ad w (hc_u3 h a O A B) n s).1 (a + 1) = some A := (rF (by omega)).trans ((hm_up_o (by omega)).trans hm_up_s)
theorem r3b (ha : 61 ≤ a) : (hm_hC k ad w (hc_u3 h a O A B) n s).1 (a + 2) = some B := (rF (by omega)).trans hm_up_s
theorem w3o (ha : 61 ≤ a) : hm_set (hm_hC k ad w (hc_u3 h a O A B) n s) a O2 = hm_hC k ad w (hc_u3 h a O2 A B) n s := (wF ha).trans (by unfold hc_u3 hc_u2; rw [hm_up_sw (show ¬ a + 2 = a by omega), hm_up_sw (show ¬ a + 1 = a by omega), hm_up_up])
theorem w3a (ha : 61 ≤ a) : hm_set (hm_hC k ad w (hc_u3 h a O A B) n s) (a + 1) O2 = hm_hC k ad w (hc_u3 h a O O2 B) n s := (wF (by omega)).trans (by unfold hc_u3 hc_u2; rw [hm_up_sw (show ¬ a + 2 = a + 1 by omega), hm_up_up])
theorem w3b (ha : 61 ≤ a) : hm_set (hm_hC k ad w (hc_u3 h a O A B) n s) (a + 2) O2 = hm_hC k ad w (hc_u3 h a O A O2) n s := (wF (by omega)).trans (by unfold hc_u3; rw [hm_up_up])
end NF
theorem hm_set_set {hp : hm_H} {b : Nat} {e e2 : va_E} : hm_set (hm_set hp b e) b e2 = hm_set hp b e2 := by
  unfold hm_set
  rw [hm_up_up]
set_option maxRecDepth 20000 in
theorem l_8g {d : Nat} {hp : hm_H} {Q : Option Value → hm_H → Prop} {b N : Nat} {v : Int32} (hN : N < 1000) (hQ : ∀ f : Nat → Int32, (∀ i, i < N → f i = v) → Q none (hm_set hp b (.inl (0, N, .inl f)))) : ∀ (j x : Nat) (f : Nat → Int32), x + j = N → (∀ i, i < x → f i = v) → hm_T d 8 5 [.ref b, .int v, .int (nI x), .int (nI N)] [] (hm_set hp b (.inl (0, N, .inl f))) Q := by
  intro j
  induction j with
  | zero =>
    intro x f hx hf
    refine r_iload_n k_8_5 rfl ?_
    refine r_iload_n k_8_6 rfl ?_
    refine r_icmp_ge k_8_7 rfl (fun c_7 => ?_) (fun z => absurd (nI_le (show N ≤ x by omega) (by omega)) z)
    exact hm_T.ret m_8 k_8_20 rfl (hQ f (fun i hi => hf i (by omega)))
  | succ j ih =>
    intro x f hx hf
    refine r_iload_n k_8_5 rfl ?_
    refine r_iload_n k_8_6 rfl ?_
    refine r_icmp_ge k_8_7 rfl (fun z => absurd z (nI_ge (show x < N by omega) (by omega))) (fun c_7 => ?_)
    refine r_aload_n k_8_10 rfl ?_
    refine r_iload_n k_8_11 rfl ?_
    refine r_iload_n k_8_12 rfl ?_
    refine r_iastn (k := x) k_8_13 hm_up_s rfl rfl (show x < N by omega) (by omega) hm_set_set ?_
    refine r_iincn k_8_14 rfl (nI_inc x) rfl ?_
    refine r_goto k_8_17 rfl ?_
    refine ih (x + 1) _ (by omega) (fun i hi => ?_)
    by_cases hix : i = x
    · exact if_pos hix
    · exact (if_neg hix).trans (hf i (by omega))
set_option maxRecDepth 20000 in
theorem s_8g {d : Nat} {hp : hm_H} {Q : Option Value → hm_H → Prop} {b N : Nat} {v : Int32} {f : Nat → Int32} (hN : N < 1000) (hc : hp.1 b = some (.inl (0, N, .inl f))) (hQ : ∀ f : Nat → Int32, (∀ i, i < N → f i = v) → Q none (hm_set hp b (.inl (0, N, .inl f)))) : hm_T d 8 0 [.ref b, .int v, .retAddr 0, .retAddr 0] [] hp Q := by
  refine r_iconst k_8_0 ci_0 ?_
  refine r_istore_n k_8_1 rfl ?_
  refine r_aload_n k_8_2 rfl ?_
  refine r_alen k_8_3 hc rfl ?_
  refine r_istore_n k_8_4 rfl ?_
  have e0 : hm_set hp b (.inl (0, N, .inl f)) = hp := by
    refine Prod.ext (funext fun j => ?_) rfl
    show (if j = b then some _ else hp.1 j) = hp.1 j
    by_cases hj : j = b
    · rw [if_pos hj, hj, hc]
    · rw [if_neg hj]
  have e := l_8g (d := d) (hp := hp) (Q := Q) (b := b) (v := v) hN hQ N 0 f (by omega) (fun i hi => absurd hi (by omega))
  rw [e0] at e
  exact e
theorem hm_df_1 : hm_df 1 = [.int 0, .int 0, .int 0, .int 0, .null, .null, .int 0, .int 0] := by rfl
theorem hm_df_5 : hm_df 5 = [.int 0, .int 0, .int 0, .int 0, .int 0] := by rfl
def hc_co (f de ne sp : Int32) (a : Nat) : va_E := .inr (1, [.int f, .int de, .int ne, .int sp, .ref (a + 1), .ref (a + 2), .int (-1), .int (nI 0)])
set_option maxRecDepth 20000 in
theorem s_65 {d n s : Nat} {k : hm_M} {ad : hm_AD} {w : hm_W} {h : Nat → Option va_E} {Q : Option Value → hm_H → Prop} (ha : 61 ≤ n + 4) {f de ne sp : Int32} (hQ : ∀ (f6 f4 : Nat → Int32), (∀ i, i < 6 → f6 i = -1) → (∀ i, i < 4 → f4 i = -1) → Q none (hm_hC k ad w (hc_u3 h (n + 4) (hc_co f de ne sp (n + 4)) (.inl (0, 6, .inl f6)) (.inl (0, 4, .inl f4))) (n + 3) (s + 10))) : hm_T (d + 1) 65 0 [.ref (n + 4), .int f, .int de, .int ne, .int sp] [] (hm_hC k ad w (hm_up h (n + 4) (.inr (1, [.int 0, .int 0, .int 0, .int 0, .null, .null, .int 0, .int 0]))) (n + 1) (s)) Q := by
  refine r_aload_n k_65_0 rfl ?_
  refine r_obj m_65 k_65_1 cl_1_3 (Nat.le_of_ble_eq_true rfl) ?_
  refine r_aload_n k_65_4 rfl ?_
  refine r_bipush k_65_5 cb_6 ?_
  refine r_newa_int (N := 6) k_65_7 (by decide) (nI_clamp (by decide)) (by decide) (hm_pushF (by omega)) ?_
  refine r_put m_65 k_65_9 fl_1_9 (r2o ha) (Nat.le_of_ble_eq_true rfl) rfl rfl (w2o ha) ?_
  refine r_aload_n k_65_12 rfl ?_
  refine r_iconst k_65_13 ci_4 ?_
  refine r_newa_int (N := 4) k_65_14 (by decide) (nI_clamp (by decide)) (by decide) (hm_pushF (by omega)) ?_
  refine r_put m_65 k_65_16 fl_1_15 (r3o ha) (Nat.le_of_ble_eq_true rfl) rfl rfl (w3o ha) ?_
  refine r_aload_n k_65_19 rfl ?_
  refine r_iconst k_65_20 ci_m1 ?_
  refine r_put m_65 k_65_21 fl_1_18 (r3o ha) (Nat.le_of_ble_eq_true rfl) rfl rfl (w3o ha) ?_
  refine r_aload_n k_65_24 rfl ?_
  refine r_iconst k_65_25 ci_0 ?_
  refine r_put m_65 k_65_26 fl_1_22 (r3o ha) (Nat.le_of_ble_eq_true rfl) rfl rfl (w3o ha) ?_
  refine r_aload_n k_65_29 rfl ?_
  refine r_iload_n k_65_30 rfl ?_
  refine r_put m_65 k_65_31 fl_1_26 (r3o ha) (Nat.le_of_ble_eq_true rfl) rfl rfl (w3o ha) ?_
  refine r_aload_n k_65_34 rfl ?_
  refine r_iload_n k_65_35 rfl ?_
  refine r_put m_65 k_65_36 fl_1_29 (r3o ha) (Nat.le_of_ble_eq_true rfl) rfl rfl (w3o ha) ?_
  refine r_aload_n k_65_39 rfl ?_
  refine r_iload_n k_65_40 rfl ?_
  refine r_put m_65 k_65_41 fl_1_32 (r3o ha) (Nat.le_of_ble_eq_true rfl) rfl rfl (w3o ha) ?_
  refine r_aload_n k_65_44 rfl ?_
  refine r_iload k_65_45 rfl ?_
  refine r_put m_65 k_65_47 fl_1_35 (r3o ha) (Nat.le_of_ble_eq_true rfl) rfl rfl (w3o ha) ?_
  refine r_aload_n k_65_50 rfl ?_
  refine r_get m_65 k_65_51 fl_1_9 (r3o ha) rfl ?_
  refine r_iconst k_65_54 ci_m1 ?_
  refine r_calls2 m_65 k_65_55 cl_1_38 m_8 (by decide) rfl rfl (Nat.le_of_ble_eq_true rfl) (Nat.le_of_ble_eq_true rfl) ?_
  refine s_8g (N := 6) (by decide) (r3a ha) (fun f6 h6 => ?_)
  rw [w3a ha]
  refine r_aload_n k_65_58 rfl ?_
  refine r_get m_65 k_65_59 fl_1_15 (r3o ha) rfl ?_
  refine r_iconst k_65_62 ci_m1 ?_
  refine r_calls2 m_65 k_65_63 cl_1_38 m_8 (by decide) rfl rfl (Nat.le_of_ble_eq_true rfl) (Nat.le_of_ble_eq_true rfl) ?_
  refine s_8g (N := 4) (by decide) (r3b ha) (fun f4 h4 => ?_)
  rw [w3b ha]
  exact hm_T.ret m_65 k_65_66 rfl (hQ f6 f4 h6 h4)
set_option maxRecDepth 20000 in
theorem s_106 {d n s : Nat} {k : hm_M} {ad : hm_AD} {w : hm_W} {h : Nat → Option va_E} {Q : Option Value → hm_H → Prop} (ha : 61 ≤ n + 4) {v : Int32} (hQ : Q none (hm_hC k ad w (hm_up h (n + 4) (.inr (5, [.int v, .int (nI 0), .int (-1), .int (nI 0), .int (nI 0)]))) (n + 1) (s))) : hm_T (d + 1) 106 0 [.ref (n + 4), .int v] [] (hm_hC k ad w (hm_up h (n + 4) (.inr (5, [.int 0, .int 0, .int 0, .int 0, .int 0]))) (n + 1) (s)) Q := by
  refine r_aload_n k_106_0 rfl ?_
  refine r_obj m_106 k_106_1 cl_5_3 (Nat.le_of_ble_eq_true rfl) ?_
  refine r_aload_n k_106_4 rfl ?_
  refine r_iconst k_106_5 ci_0 ?_
  refine r_put m_106 k_106_6 fl_5_9 (r1o ha) (Nat.le_of_ble_eq_true rfl) rfl rfl (w1o ha) ?_
  refine r_aload_n k_106_9 rfl ?_
  refine r_iconst k_106_10 ci_m1 ?_
  refine r_put m_106 k_106_11 fl_5_15 (r1o ha) (Nat.le_of_ble_eq_true rfl) rfl rfl (w1o ha) ?_
  refine r_aload_n k_106_14 rfl ?_
  refine r_iconst k_106_15 ci_0 ?_
  refine r_put m_106 k_106_16 fl_5_18 (r1o ha) (Nat.le_of_ble_eq_true rfl) rfl rfl (w1o ha) ?_
  refine r_aload_n k_106_19 rfl ?_
  refine r_iconst k_106_20 ci_0 ?_
  refine r_put m_106 k_106_21 fl_5_22 (r1o ha) (Nat.le_of_ble_eq_true rfl) rfl rfl (w1o ha) ?_
  refine r_aload_n k_106_24 rfl ?_
  refine r_iload_n k_106_25 rfl ?_
  refine r_put m_106 k_106_26 fl_5_25 (r1o ha) (Nat.le_of_ble_eq_true rfl) rfl rfl (w1o ha) ?_
  exact hm_T.ret m_106 k_106_29 rfl hQ
theorem hc_shr : ∀ c : Fin 32, nI c.val >>> (nI 1 &&& 31) = nI (c.val / 2) := by decide +kernel
def hc_nl (c : Nat) : Nat := c + (if 1 < c / 2 then c / 2 else 1)
set_option maxRecDepth 20000 in
theorem s_70 {d : Nat} {hp : hm_H} {Q : Option Value → hm_H → Prop} {c : Nat} (hc : c < 32) (hQ : Q (some (.int (nI (hc_nl c)))) hp) : hm_T (d + 1) 70 0 [.int (nI c), .int (nI 1), .int (nI (c / 2)), .retAddr 0] [] hp Q := by
  have hl : hc_nl c ≤ 64 := by unfold hc_nl; split <;> omega
  have hl0 : 0 < hc_nl c := by unfold hc_nl; split <;> omega
  have em : (if nI 1 < nI (c / 2) then nI (c / 2) else nI 1) = nI (if 1 < c / 2 then c / 2 else 1) := by
    by_cases h1 : 1 < c / 2
    · rw [if_pos h1, if_pos ((nI_ltI (by omega) (by omega)).mpr h1)]
    · rw [if_neg h1, if_neg (fun z => h1 ((nI_ltI (by omega) (by omega)).mp z))]
  refine r_iload_n k_70_0 rfl ?_
  refine r_iload_n k_70_1 rfl ?_
  refine r_iload_n k_70_2 rfl ?_
  refine r_calls2 m_70 k_70_3 cl_17_194 m_15 (by decide) rfl rfl (Nat.le_of_ble_eq_true rfl) (Nat.le_of_ble_eq_true rfl) ?_
  refine s_15 ?_
  rw [em]
  refine r_iadd k_70_6 ?_
  rw [nI_add, show c + (if 1 < c / 2 then c / 2 else 1) = hc_nl c from rfl]
  refine r_istore_n k_70_7 rfl ?_
  refine r_iconst k_70_8 ci_0 ?_
  refine r_iload_n k_70_9 rfl ?_
  refine r_icmp_ge k_70_10 rfl (fun z => absurd z (nI_ge hl0 (by omega))) (fun c_10 => ?_)
  refine r_iload_n k_70_13 rfl ?_
  refine r_ldc m_70 k_70_14 il_17_200 ?_
  refine r_icmp_gt k_70_16 rfl (fun z => absurd z (Int32.not_lt.mpr (Int32.le_iff_toInt_le.mpr (by rw [nI_toInt (by omega), show (2147483639 : Int32).toInt = 2147483639 by decide +kernel]; omega)))) (fun c_16 => ?_)
  refine r_iload_n k_70_19 rfl ?_
  exact hm_T.ret m_70 k_70_20 rfl hQ
