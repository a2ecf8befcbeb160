/-- what the Model's state keeps -/
def hm_G (m : hm_M) (nc nb : Nat) (LL : Nat → List Int32) : Prop := (m 9 0 = nI nc) ∧ (nc ≤ 16) ∧ (∀ c, c < nc → ∃ f, m 10 c = nI f ∧ f < 4) ∧ (nb ≤ 12) ∧ (m 2 0 = nI nb) ∧ (∀ c, (LL c).length ≤ 924) ∧ (∀ c, c < nc → ¬ m 12 c ≤ 0 → ∃ mn, m 12 c = nI mn ∧ mn ≤ 6 ∧ hm_LL (m 3) (m 13 c) mn nb (LL c)) ∧ (∀ c t hh, c < nc → t < 4 → hh < 400 → nI (hm_tkn m nc 0 hh) < m 0 0 → (hm_tl (hm_hr m c t hh) (nI hh) (4 * nc)).length ≤ 8) ∧ (∀ hour : Int32, 0 ≤ hour → (hm_tl m hour (4 * nc)).length ≤ 8) ∧ (∀ c, c < nc → hm_re (m 15 (4 * c + 2)) (m 15 (4 * c + 3)) < nI 400) ∧ (∀ i, i < 4 * nc → m 15 i < 0 → m 15 i = -1)
theorem hm_G.hn {m : hm_M} {nc nb : Nat} {LL : Nat → List Int32} (G : hm_G m nc nb LL) : m 9 0 = nI nc := G.1
theorem hm_G.hnc {m : hm_M} {nc nb : Nat} {LL : Nat → List Int32} (G : hm_G m nc nb LL) : nc ≤ 16 := G.2.1
theorem hm_G.hF {m : hm_M} {nc nb : Nat} {LL : Nat → List Int32} (G : hm_G m nc nb LL) : ∀ c, c < nc → ∃ f, m 10 c = nI f ∧ f < 4 := G.2.2.1
theorem hm_G.hnb {m : hm_M} {nc nb : Nat} {LL : Nat → List Int32} (G : hm_G m nc nb LL) : nb ≤ 12 := G.2.2.2.1
theorem hm_G.hb {m : hm_M} {nc nb : Nat} {LL : Nat → List Int32} (G : hm_G m nc nb LL) : m 2 0 = nI nb := G.2.2.2.2.1
theorem hm_G.hLn {m : hm_M} {nc nb : Nat} {LL : Nat → List Int32} (G : hm_G m nc nb LL) : ∀ c, (LL c).length ≤ 924 := G.2.2.2.2.2.1
theorem hm_G.hLL {m : hm_M} {nc nb : Nat} {LL : Nat → List Int32} (G : hm_G m nc nb LL) : ∀ c, c < nc → ¬ m 12 c ≤ 0 → ∃ mn, m 12 c = nI mn ∧ mn ≤ 6 ∧ hm_LL (m 3) (m 13 c) mn nb (LL c) := G.2.2.2.2.2.2.1
theorem hm_G.hT {m : hm_M} {nc nb : Nat} {LL : Nat → List Int32} (G : hm_G m nc nb LL) : ∀ c t hh, c < nc → t < 4 → hh < 400 → nI (hm_tkn m nc 0 hh) < m 0 0 → (hm_tl (hm_hr m c t hh) (nI hh) (4 * nc)).length ≤ 8 := G.2.2.2.2.2.2.2.1
theorem hm_G.hT2 {m : hm_M} {nc nb : Nat} {LL : Nat → List Int32} (G : hm_G m nc nb LL) : ∀ hour : Int32, 0 ≤ hour → (hm_tl m hour (4 * nc)).length ≤ 8 := G.2.2.2.2.2.2.2.2.1
theorem hm_G.he {m : hm_M} {nc nb : Nat} {LL : Nat → List Int32} (G : hm_G m nc nb LL) : ∀ c, c < nc → hm_re (m 15 (4 * c + 2)) (m 15 (4 * c + 3)) < nI 400 := G.2.2.2.2.2.2.2.2.2.1
theorem hm_G.hH {m : hm_M} {nc nb : Nat} {LL : Nat → List Int32} (G : hm_G m nc nb LL) : ∀ i, i < 4 * nc → m 15 i < 0 → m 15 i = -1 := G.2.2.2.2.2.2.2.2.2.2
theorem hm_tl_x (m S : hm_M) (hour : Int32) : ∀ j, hm_tl (hm_x m S) hour j = hm_tl m hour j := by
  intro j
  induction j with
  | zero => rfl
  | succ j ih =>
    show (if (j % 4 = 1 ∨ j % 4 = 3) ∧ m 15 j = hour ∧ ¬ m 12 (j / 4) ≤ 0 then hm_tl (hm_x m S) hour j ++ [j] else hm_tl (hm_x m S) hour j) = _
    rw [ih]
    rfl
theorem hm_hr_x (m S : hm_M) (c t hh : Nat) : hm_hr (hm_x m S) c t hh = hm_x (hm_hr m c t hh) S := hm_x_m m S _ (by decide)
theorem hm_fs_x (m S : hm_M) (LL : Nat → List Int32) (hour : Int32) (nc : Nat) : hm_fs (hm_x m S) LL hour nc = hm_fs m LL hour nc := by
  unfold hm_fs
  rw [hm_tl_x]
theorem hm_may_x (m S : hm_M) (LL : Nat → List Int32) (nc c t hh : Nat) : hm_may (hm_x m S) LL nc c t hh = hm_may m LL nc c t hh := by
  have e : (if (hm_fs (hm_hr (hm_x m S) c t hh) LL (nI hh) nc).isSome = true then nI 0 else nI 12) = (if (hm_fs (hm_hr m c t hh) LL (nI hh) nc).isSome = true then nI 0 else nI 12) := by rw [hm_hr_x, hm_fs_x]
  have e2 : hm_plm (hm_x m S) nc c hh t = hm_plm m nc c hh t := by
    have h4 : t = 0 ∨ t = 1 ∨ t = 2 ∨ 2 < t := by omega
    rcases h4 with rfl | rfl | rfl | h
    · rfl
    · rfl
    · rfl
    · obtain ⟨k, rfl⟩ : ∃ k, t = k + 3 := ⟨t - 3, by omega⟩
      rfl
  have e3 : hm_oe (hm_x m S) c t = hm_oe m c t := by
    have h4 : t = 0 ∨ t = 1 ∨ t = 2 ∨ t = 3 ∨ 3 < t := by omega
    rcases h4 with rfl | rfl | rfl | rfl | h
    · rfl
    · rfl
    · rfl
    · rfl
    · obtain ⟨k, rfl⟩ : ∃ k, t = k + 4 := ⟨t - 4, by omega⟩
      rfl
  have e4 : hm_hn (hm_x m S) c t (nI hh) = hm_hn m c t (nI hh) := rfl
  have e5 : hm_wl (hm_x m S) c t (nI hh) = hm_wl m c t (nI hh) := rfl
  have e6 : hm_bz (hm_x m S) c (nI hh) = hm_bz m c (nI hh) := rfl
  have e7 : hm_tkn (hm_x m S) nc 0 hh = hm_tkn m nc 0 hh := rfl
  unfold hm_may
  rw [e, e2, e3, e4, e5, e6, e7]
  rfl
theorem hm_G.x {m : hm_M} {nc nb : Nat} {LL : Nat → List Int32} (G : hm_G m nc nb LL) (S : hm_M) : hm_G (hm_x m S) nc nb LL := by
  refine ⟨G.hn, G.hnc, G.hF, G.hnb, G.hb, G.hLn, G.hLL, fun c t hh a b e1 e2 => ?_, fun hour hh => ?_, G.he, G.hH⟩
  · rw [hm_hr_x, hm_tl_x]
    exact G.hT c t hh a b e1 e2
  · rw [hm_tl_x]
    exact G.hT2 hour hh
set_option maxRecDepth 20000 in
theorem s_150 {d n s : Nat} {m : hm_M} {h : Nat → Option va_E} {Q : Option Value → hm_H → Prop} {nc nb : Nat} {LL : Nat → List Int32} (G : hm_G m nc nb LL) {c t hh : Nat} (hc : c < nc) (ht : t < 4) (hh4 : hh < 400) (hQ : ∀ S2, Q (some (.int (hm_may m LL nc c t hh))) (hm_hM (hm_x m S2) h n s)) : hm_T (d + 4) 150 0 [.ref 61, .int (nI c), .int (nI t), .int (nI hh), .retAddr 0, .retAddr 0] [] (hm_hM m h n s) Q := by
  have h4 : t = 0 ∨ t = 1 ∨ t = 2 ∨ t = 3 := by omega
  have e : m 15 (4 * c + t) < 0 → m 15 (4 * c + t) = -1 := G.hH _ (by omega)
  have e2 := G.hT c t hh hc ht hh4
  rcases h4 with rfl | rfl | rfl | rfl
  · exact s_150_0 G.hn G.hnc hc hh4 G.hF G.hnb G.hb G.hLn G.hLL e2 (G.he c hc) e hQ
  · exact s_150_1 G.hn G.hnc hc hh4 G.hF G.hnb G.hb G.hLn G.hLL e2 (G.he c hc) e hQ
  · exact s_150_2 G.hn G.hnc hc hh4 G.hF G.hnb G.hb G.hLn G.hLL e2 (G.he c hc) e hQ
  · exact s_150_3 G.hn G.hnc hc hh4 G.hF G.hnb G.hb G.hLn G.hLL e2 (G.he c hc) e hQ
def op_may (m : hm_M) (LL : Nat → List Int32) (nc : Nat) (c t x : Int32) : Int32 := if (0 ≤ c.toInt ∧ c.toInt < nc) then (if (0 ≤ t.toInt ∧ t.toInt ≤ 3) then (if (0 ≤ x.toInt ∧ x.toInt ≤ 399) then hm_may m LL nc c.toNatClampNeg t.toNatClampNeg x.toNatClampNeg else -1002) else -1002) else -1001
set_option maxRecDepth 20000 in
theorem s_149 {d n s : Nat} {m : hm_M} {h : Nat → Option va_E} {Q : Option Value → hm_H → Prop} {nc nb : Nat} {LL : Nat → List Int32} (G : hm_G m nc nb LL) {c t x : Int32} (hQ : ∀ S2, Q (some (.int (op_may m LL nc c t x))) (hm_hM (hm_x m S2) h n s)) : hm_T (d + 5) 149 0 [.ref 61, .int c, .int t, .int x] [] (hm_hM m h n s) Q := by
  refine r_aload_n k_149_0 rfl ?_
  refine r_iload_n k_149_1 rfl ?_
  refine r_callv2 m_149 k_149_2 cl_8_213 m_148 (by decide) rfl rfl (Nat.le_of_ble_eq_true rfl) (Nat.le_of_ble_eq_true rfl) rfl rfl ?_
  refine s_148 G.hn G.hnc ?_
  refine r_if_ne k_149_5 rfl (fun c_5 => ?_) (fun c_5 => ?_)
  · have c_5 := hm_if1 c_5
    refine r_iload_n k_149_12 rfl ?_
    refine r_calls1 m_149 k_149_13 cl_8_165 m_144 (by decide) rfl rfl (Nat.le_of_ble_eq_true rfl) (Nat.le_of_ble_eq_true rfl) ?_
    refine s_144 ?_
    refine r_if_eq k_149_16 rfl (fun c_16 => ?_) (fun c_16 => ?_)
    · have c_16 := hm_if0 c_16
      refine r_sipush k_149_36 cs_m1002 ?_
      exact hm_T.ret m_149 k_149_39 rfl (by have e := hQ m; rw [hm_x_i] at e; unfold op_may at e; rw [if_pos c_5, if_neg c_16] at e; exact e)
    · have c_16 := hm_if1 c_16
      refine r_iload_n k_149_19 rfl ?_
      refine r_calls1 m_149 k_149_20 cl_8_205 m_146 (by decide) rfl rfl (Nat.le_of_ble_eq_true rfl) (Nat.le_of_ble_eq_true rfl) ?_
      refine s_146 ?_
      refine r_if_eq k_149_23 rfl (fun c_23 => ?_) (fun c_23 => ?_)
      · have c_23 := hm_if0 c_23
        refine r_sipush k_149_36 cs_m1002 ?_
        exact hm_T.ret m_149 k_149_39 rfl (by have e := hQ m; rw [hm_x_i] at e; unfold op_may at e; rw [if_pos c_5, if_pos c_16, if_neg c_23] at e; exact e)
      · have c_23 := hm_if1 c_23
        obtain ⟨ck, ckb, rfl, -, ckc⟩ := hm_nIof2 c_5.1 (N := nc) (by omega)
        obtain ⟨tk, tkb, rfl, -, tkc⟩ := hm_nIof2 c_16.1 (N := 4) (by omega)
        obtain ⟨xk, xkb, rfl, -, xkc⟩ := hm_nIof2 c_23.1 (N := 400) (by omega)
        refine r_aload_n k_149_26 rfl ?_
        refine r_iload_n k_149_27 rfl ?_
        refine r_iload_n k_149_28 rfl ?_
        refine r_iload_n k_149_29 rfl ?_
        refine r_callv4 m_149 k_149_30 cl_8_220 m_150 (by decide) rfl rfl (Nat.le_of_ble_eq_true rfl) (Nat.le_of_ble_eq_true rfl) rfl rfl ?_
        refine s_150 G (c := ck) (t := tk) (hh := xk) ckb tkb xkb (fun S2 => ?_)
        refine r_goto k_149_33 rfl ?_
        exact hm_T.ret m_149 k_149_39 rfl (by have e := hQ S2; unfold op_may at e; rw [if_pos c_5, if_pos c_16, if_pos c_23, ckc, tkc, xkc] at e; exact e)
  · have c_5 := hm_if0 (Decidable.of_not_not c_5)
    refine r_sipush k_149_8 cs_m1001 ?_
    exact hm_T.ret m_149 k_149_11 rfl (by have e := hQ m; rw [hm_x_i] at e; unfold op_may at e; rw [if_neg c_5] at e; exact e)
def op_promise (m : hm_M) (LL : Nat → List Int32) (nc : Nat) (c t x : Int32) : Int32 × hm_M := if 0 ≤ op_may m LL nc c t x then (if op_may m LL nc c t x ≤ 0 then (nI 1, hm_uM m 15 (upd (m 15) (4 * c.toNatClampNeg + t.toNatClampNeg) x)) else (-1003, m)) else (op_may m LL nc c t x, m)
theorem op_may_in {m : hm_M} {LL : Nat → List Int32} {nc : Nat} {c t x : Int32} (h : 0 ≤ op_may m LL nc c t x) : (0 ≤ c.toInt ∧ c.toInt < nc) ∧ (0 ≤ t.toInt ∧ t.toInt ≤ 3) ∧ (0 ≤ x.toInt ∧ x.toInt ≤ 399) := by
  unfold op_may at h
  by_cases h1 : (0 ≤ c.toInt ∧ c.toInt < nc)
  · rw [if_pos h1] at h
    by_cases h2 : (0 ≤ t.toInt ∧ t.toInt ≤ 3)
    · rw [if_pos h2] at h
      by_cases h3 : (0 ≤ x.toInt ∧ x.toInt ≤ 399)
      · exact ⟨h1, h2, h3⟩
      · rw [if_neg h3] at h
        exact absurd h (by decide)
    · rw [if_neg h2] at h
      exact absurd h (by decide)
  · rw [if_neg h1] at h
    exact absurd h (by decide)
set_option maxRecDepth 20000 in
theorem s_156 {d n s : Nat} {m : hm_M} {h : Nat → Option va_E} {Q : Option Value → hm_H → Prop} {nc nb : Nat} {LL : Nat → List Int32} (G : hm_G m nc nb LL) {c t x : Int32} (hQ : ∀ S2, Q (some (.int (op_promise m LL nc c t x).1)) (hm_hM (hm_x (op_promise m LL nc c t x).2 S2) h n s)) : hm_T (d + 6) 156 0 [.ref 61, .int c, .int t, .int x, .retAddr 0] [] (hm_hM m h n s) Q := by
  refine r_aload_n k_156_0 rfl ?_
  refine r_iload_n k_156_1 rfl ?_
  refine r_iload_n k_156_2 rfl ?_
  refine r_iload_n k_156_3 rfl ?_
  refine r_callv4 m_156 k_156_4 cl_8_223 m_149 (by decide) rfl rfl (Nat.le_of_ble_eq_true rfl) (Nat.le_of_ble_eq_true rfl) rfl rfl ?_
  refine s_149 G (fun S2 => ?_)
  refine r_istore k_156_7 rfl ?_
  refine r_iload k_156_9 rfl ?_
  refine r_if_ge k_156_11 rfl (fun c_11 => ?_) (fun c_11 => ?_)
  · refine r_iload k_156_17 rfl ?_
    refine r_if_le k_156_19 rfl (fun c_19 => ?_) (fun c_19 => ?_)
    · have hin := op_may_in c_11
      obtain ⟨ck, ckb, hce, -, ckc⟩ := hm_nIof2 hin.1.1 (N := nc) (by omega)
      obtain ⟨tk, tkb, hte, -, tkc⟩ := hm_nIof2 hin.2.1.1 (N := 4) (by omega)
      have hnc := G.hnc
      refine r_aload_n k_156_26 rfl ?_
      refine r_get m_156 k_156_27 fl_8_47 rfl rfl ?_
      refine r_iconst k_156_30 ci_4 ?_
      refine r_iload_n k_156_31 rfl ?_
      refine r_imul k_156_32 ?_
      refine r_iload_n k_156_33 rfl ?_
      refine r_iadd k_156_34 ?_
      refine r_iload_n k_156_35 rfl ?_
      refine r_iastn (k := 4 * ck + tk) k_156_36 rfl rfl (by rw [hce, hte, nI_mul, nI_add]) (by omega) (by decide) (wX_15 _) ?_
      refine r_iconst k_156_37 ci_1 ?_
      exact hm_T.ret m_156 k_156_38 rfl (by have e := hQ S2; unfold op_promise at e; rw [if_pos c_11, if_pos c_19, ckc, tkc] at e; exact e)
    · refine r_sipush k_156_22 cs_m1003 ?_
      exact hm_T.ret m_156 k_156_25 rfl (by have e := hQ S2; unfold op_promise at e; rw [if_pos c_11, if_neg c_19] at e; exact e)
  · refine r_iload k_156_14 rfl ?_
    exact hm_T.ret m_156 k_156_16 rfl (by have e := hQ S2; unfold op_promise at e; rw [if_neg c_11] at e; exact e)
def hm_ea (m : hm_M) (LL : Nat → List Int32) (nc c t : Nat) : Nat → Nat → Int32
  | 0, _ => -1
  | k + 1, j => if hm_may m LL nc c t j = 0 then nI j else hm_ea m LL nc c t k (j + 1)
def op_earliest (m : hm_M) (LL : Nat → List Int32) (nc : Nat) (c t x : Int32) : Int32 := if (0 ≤ c.toInt ∧ c.toInt < nc) then (if (0 ≤ t.toInt ∧ t.toInt ≤ 3) then (if (0 ≤ x.toInt ∧ x.toInt ≤ 399) then hm_ea m LL nc c.toNatClampNeg t.toNatClampNeg (400 - x.toNatClampNeg) x.toNatClampNeg else -1002) else -1002) else -1001
set_option maxRecDepth 20000 in
theorem l_157 {d n s : Nat} {m : hm_M} {h : Nat → Option va_E} {Q : Option Value → hm_H → Prop} {nc nb : Nat} {LL : Nat → List Int32} (G : hm_G m nc nb LL) {c t : Nat} {x : Int32} (hc : c < nc) (ht : t < 4) : ∀ (k j : Nat) (S : hm_M), j + k = 400 → (∀ S2, Q (some (.int (hm_ea m LL nc c t k j))) (hm_hM (hm_x m S2) h n s)) → hm_T (d + 5) 157 33 [.ref 61, .int (nI c), .int (nI t), .int x, .int (nI j)] [] (hm_hM (hm_x m S) h n s) Q := by
  intro k
  induction k with
  | zero =>
    intro j S hj hQ
    refine r_iload k_157_33 rfl ?_
    refine r_sipush k_157_35 cs_400 ?_
    refine r_icmp_ge k_157_38 rfl (fun c_38 => ?_) (fun z => absurd (nI_le (show 400 ≤ j by omega) (by omega)) z)
    refine r_iconst k_157_61 ci_m1 ?_
    exact hm_T.ret m_157 k_157_62 rfl (hQ S)
  | succ k ih =>
    intro j S hj hQ
    refine r_iload k_157_33 rfl ?_
    refine r_sipush k_157_35 cs_400 ?_
    refine r_icmp_ge k_157_38 rfl (fun z => absurd z (nI_ge (show j < 400 by omega) (by omega))) (fun c_38 => ?_)
    refine r_aload_n k_157_41 rfl ?_
    refine r_iload_n k_157_42 rfl ?_
    refine r_iload_n k_157_43 rfl ?_
    refine r_iload k_157_44 rfl ?_
    refine r_callv4 m_157 k_157_46 cl_8_220 m_150 (by decide) rfl rfl (Nat.le_of_ble_eq_true rfl) (Nat.le_of_ble_eq_true rfl) rfl rfl ?_
    refine s_150 (m := hm_x m S) (G.x S) (c := c) (t := t) (hh := j) hc ht (by omega) (fun S2 => ?_)
    rw [hm_x_x, hm_may_x]
    refine r_if_ne k_157_49 rfl (fun c_49 => ?_) (fun c_49 => ?_)
    · refine r_iincn k_157_55 rfl (nI_inc j) rfl ?_
      refine r_goto k_157_58 rfl ?_
      refine ih (j + 1) S2 (by omega) (fun S3 => ?_)
      have e := hQ S3
      rw [show hm_ea m LL nc c t (k + 1) j = hm_ea m LL nc c t k (j + 1) from if_neg c_49] at e
      exact e
    · have c_49 := Decidable.of_not_not c_49
      refine r_iload k_157_52 rfl ?_
      exact hm_T.ret m_157 k_157_54 rfl (by have e := hQ S2; rw [show hm_ea m LL nc c t (k + 1) j = nI j from if_pos c_49] at e; exact e)
set_option maxRecDepth 20000 in
theorem s_157 {d n s : Nat} {m : hm_M} {h : Nat → Option va_E} {Q : Option Value → hm_H → Prop} {nc nb : Nat} {LL : Nat → List Int32} (G : hm_G m nc nb LL) {c t x : Int32} (hQ : ∀ S2, Q (some (.int (op_earliest m LL nc c t x))) (hm_hM (hm_x m S2) h n s)) : hm_T (d + 5) 157 0 [.ref 61, .int c, .int t, .int x, .retAddr 0] [] (hm_hM m h n s) Q := by
  refine r_aload_n k_157_0 rfl ?_
  refine r_iload_n k_157_1 rfl ?_
  refine r_callv2 m_157 k_157_2 cl_8_213 m_148 (by decide) rfl rfl (Nat.le_of_ble_eq_true rfl) (Nat.le_of_ble_eq_true rfl) rfl rfl ?_
  refine s_148 G.hn G.hnc ?_
  refine r_if_ne k_157_5 rfl (fun c_5 => ?_) (fun c_5 => ?_)
  · have c_5 := hm_if1 c_5
    refine r_iload_n k_157_12 rfl ?_
    refine r_calls1 m_157 k_157_13 cl_8_165 m_144 (by decide) rfl rfl (Nat.le_of_ble_eq_true rfl) (Nat.le_of_ble_eq_true rfl) ?_
    refine s_144 ?_
    refine r_if_eq k_157_16 rfl (fun c_16 => ?_) (fun c_16 => ?_)
    · have c_16 := hm_if0 c_16
      refine r_sipush k_157_26 cs_m1002 ?_
      exact hm_T.ret m_157 k_157_29 rfl (by have e := hQ m; rw [hm_x_i] at e; unfold op_earliest at e; rw [if_pos c_5, if_neg c_16] at e; exact e)
    · have c_16 := hm_if1 c_16
      refine r_iload_n k_157_19 rfl ?_
      refine r_calls1 m_157 k_157_20 cl_8_205 m_146 (by decide) rfl rfl (Nat.le_of_ble_eq_true rfl) (Nat.le_of_ble_eq_true rfl) ?_
      refine s_146 ?_
      refine r_if_ne k_157_23 rfl (fun c_23 => ?_) (fun c_23 => ?_)
      · have c_23 := hm_if1 c_23
        obtain ⟨ck, ckb, rfl, -, ckc⟩ := hm_nIof2 c_5.1 (N := nc) (by omega)
        obtain ⟨tk, tkb, rfl, -, tkc⟩ := hm_nIof2 c_16.1 (N := 4) (by omega)
        obtain ⟨xk, xkb, rfl, -, xkc⟩ := hm_nIof2 c_23.1 (N := 400) (by omega)
        refine r_iload_n k_157_30 rfl ?_
        refine r_istore k_157_31 rfl ?_
        rw [show hm_hM m h n s = hm_hM (hm_x m m) h n s by rw [hm_x_i]]
        refine l_157 G ckb tkb (400 - xk) xk m (by omega) (fun S2 => ?_)
        have e := hQ S2
        unfold op_earliest at e
        rw [if_pos c_5, if_pos c_16, if_pos c_23, ckc, tkc, xkc] at e
        exact e
      · have c_23 := hm_if0 (Decidable.of_not_not c_23)
        refine r_sipush k_157_26 cs_m1002 ?_
        exact hm_T.ret m_157 k_157_29 rfl (by have e := hQ m; rw [hm_x_i] at e; unfold op_earliest at e; rw [if_pos c_5, if_pos c_16, if_neg c_23] at e; exact e)
  · have c_5 := hm_if0 (Decidable.of_not_not c_5)
    refine r_sipush k_157_8 cs_m1001 ?_
    exact hm_T.ret m_157 k_157_11 rfl (by have e := hQ m; rw [hm_x_i] at e; unfold op_earliest at e; rw [if_neg c_5] at e; exact e)
theorem hm_fi_some {g : Int32 → Option (List Nat)} : ∀ {L : List Int32} {q0 : Nat} {ps : List Nat}, hm_fi g L q0 = some ps → ∃ q p x, ps = (q0 + q) :: p ∧ L[q]? = some x ∧ g x = some p ∧ ∀ j y, j < q → L[j]? = some y → g y = none := by
  intro L
  induction L with
  | nil =>
    intro q0 ps h
    cases h
  | cons x L ih =>
    intro q0 ps h
    cases hg : g x with
    | some p =>
      have e : hm_fi g (x :: L) q0 = some (q0 :: p) := by show (match g x with | some p => some (q0 :: p) | none => _) = _; rw [hg]
      rw [e] at h
      cases h
      exact ⟨0, p, x, rfl, rfl, hg, fun j y hj => absurd hj (by omega)⟩
    | none =>
      have e : hm_fi g (x :: L) q0 = hm_fi g L (q0 + 1) := by show (match g x with | some p => some (q0 :: p) | none => _) = _; rw [hg]
      rw [e] at h
      obtain ⟨q, p, z, h1, h2, h3, h4⟩ := ih h
      refine ⟨q + 1, p, z, by rw [h1, show q0 + 1 + q = q0 + (q + 1) by omega], h2, h3, fun j y hj hy => ?_⟩
      cases j with
      | zero => cases hy; exact hg
      | succ j => exact h4 j y (by omega) hy
theorem hm_ff_len : ∀ {Ls : List (List Int32)} {u : Int32} {ps : List Nat}, hm_ff Ls u = some ps → ps.length = Ls.length ∧ ∀ (i : Nat) (L : List Int32), Ls[i]? = some L → ∃ q y, ps[i]? = some q ∧ L[q]? = some y := by
  intro Ls
  induction Ls with
  | nil =>
    intro u ps h
    cases h
    exact ⟨rfl, fun i L hL => by cases hL⟩
  | cons L Ls ih =>
    intro u ps h
    obtain ⟨q, p, x, h1, h2, h3, -⟩ := hm_fi_some (show hm_fi _ L 0 = some ps from h)
    by_cases hx : x &&& u = 0
    · rw [if_pos hx] at h3
      obtain ⟨e1, e2⟩ := ih h3
      subst h1
      refine ⟨by rw [List.length_cons, List.length_cons, e1], fun i L2 hL => ?_⟩
      cases i with
      | zero =>
        cases hL
        exact ⟨q, x, by rw [show 0 + q = q by omega]; rfl, h2⟩
      | succ i => exact e2 i L2 hL
    · rw [if_neg hx] at h3
      cases h3
/-- the set of a taker: the row's last one that bears the key -/
def hm_pk (LL : Nat → List Int32) (key : Nat) : List Nat → List Nat → Int32 → Int32
  | [], _, a => a
  | x :: Ts, ps, a => hm_pk LL key Ts ps.tail (if x = key then (LL (x / 4))[ps.headD 0]?.getD 0 else a)
def hm_sof (m : hm_M) (LL : Nat → List Int32) (nc c t : Nat) : Int32 := match hm_fs m LL (m 15 (4 * c + t)) nc with
  | none => nI 0
  | some ps => hm_pk LL (4 * c + t) (hm_tl m (m 15 (4 * c + t)) (4 * nc)) ps (nI 0)
theorem hm_tl_lt (m : hm_M) (hour : Int32) : ∀ (j : Nat) (x : Nat), x ∈ hm_tl m hour j → x < j := by
  intro j
  induction j with
  | zero => intro x hx; cases hx
  | succ j ih =>
    intro x hx
    unfold hm_tl at hx
    split at hx
    · rcases List.mem_append.mp hx with h | h
      · exact Nat.lt_succ_of_lt (ih x h)
      · rw [List.mem_singleton.mp h]; exact Nat.lt_succ_self j
    · exact Nat.lt_succ_of_lt (ih x hx)
set_option maxRecDepth 20000 in
theorem l_161 {d n s : Nat} {m S : hm_M} {h : Nat → Option va_E} {Q : Option Value → hm_H → Prop} {LL : Nat → List Int32} {c t : Nat} (hc : c < 16) (ht : t < 4) {Ts ps : List Nat} (hts : hm_ts S LL Ts) (hT8 : Ts.length ≤ 8) (hTl : ∀ (i x : Nat), Ts[i]? = some x → x < 64) (hps : ∀ (i q : Nat), ps[i]? = some q → S 29 i = nI q) (hpl : ∀ (i x : Nat), Ts[i]? = some x → ∃ q y, ps[i]? = some q ∧ (LL (x / 4))[q]? = some y) (hLn : ∀ c, (LL c).length ≤ 924) : ∀ (k i : Nat) (a : Int32), i + k = Ts.length → Q (some (.int (hm_pk LL (4 * c + t) (Ts.drop i) (ps.drop i) a))) (hm_hM (hm_x m S) h n s) → hm_T d 161 17 [.ref 61, .int (nI c), .int (nI t), .int (nI 1), .int a, .int (nI i)] [] (hm_hM (hm_x m S) h n s) Q := by
  intro k
  induction k with
  | zero =>
    intro i a hi hQ
    rw [List.drop_of_length_le (show Ts.length ≤ i by omega)] at hQ
    refine r_iload k_161_17 rfl ?_
    refine r_aload_n k_161_19 rfl ?_
    refine r_get m_161 k_161_20 fl_8_199 rfl rfl ?_
    rw [show hm_x m S 25 0 = nI Ts.length from hts.1]
    refine r_icmp_ge k_161_23 rfl (fun c_23 => ?_) (fun z => absurd (nI_le (show Ts.length ≤ i by omega) (by omega)) z)
    refine r_iload k_161_77 rfl ?_
    exact hm_T.ret m_161 k_161_79 rfl hQ
  | succ k ih =>
    intro i a hi hQ
    obtain ⟨x, hx⟩ : ∃ x, Ts[i]? = some x := ⟨Ts[i]'(by omega), List.getElem?_eq_getElem _⟩
    obtain ⟨h1, h2, h3⟩ := hts.2 i x hx
    obtain ⟨q, y, hq, hy⟩ := hpl i x hx
    have hx64 := hTl i x hx
    have hdT : Ts.drop i = x :: Ts.drop (i + 1) := by
      obtain ⟨hi2, e⟩ := List.getElem?_eq_some_iff.mp hx
      rw [← e, ← List.drop_eq_getElem_cons hi2]
    have hhd : (ps.drop i).headD 0 = q := by
      obtain ⟨hi2, e⟩ := List.getElem?_eq_some_iff.mp hq
      rw [List.drop_eq_getElem_cons hi2, e]
      rfl
    refine r_iload k_161_17 rfl ?_
    refine r_aload_n k_161_19 rfl ?_
    refine r_get m_161 k_161_20 fl_8_199 rfl rfl ?_
    rw [show hm_x m S 25 0 = nI Ts.length from hts.1]
    refine r_icmp_ge k_161_23 rfl (fun z => absurd z (nI_ge (show i < Ts.length by omega) (by omega))) (fun c_23 => ?_)
    refine r_iload_n k_161_26 rfl ?_
    refine r_if_eq k_161_27 rfl (fun z => absurd z (show ¬ (1 : Int32) = 0 by decide)) (fun c_27 => ?_)
    refine r_aload_n k_161_30 rfl ?_
    refine r_get m_161 k_161_31 fl_8_66 rfl rfl ?_
    refine r_iload k_161_34 rfl ?_
    refine r_ialdn (k := i) k_161_36 rfl (Or.inl rfl) rfl (by omega) (by decide) ?_
    rw [show hm_x m S 26 i = nI x from h1]
    refine r_iconst k_161_37 ci_4 ?_
    refine r_iload_n k_161_38 rfl ?_
    refine r_imul k_161_39 ?_
    refine r_iload_n k_161_40 rfl ?_
    refine r_iadd k_161_41 ?_
    refine r_icmp_ne k_161_42 rfl (fun c_42 => ?_) (fun c_42 => ?_)
    · refine r_iload k_161_67 rfl ?_
      refine r_istore k_161_69 rfl ?_
      refine r_iincn k_161_71 rfl (nI_inc i) rfl ?_
      refine r_goto k_161_74 rfl ?_
      refine ih (i + 1) a (by omega) ?_
      rw [hdT, show hm_pk LL (4 * c + t) (x :: Ts.drop (i + 1)) (ps.drop i) a = hm_pk LL (4 * c + t) (Ts.drop (i + 1)) (ps.drop i).tail (if x = 4 * c + t then _ else a) from rfl, if_neg (fun z => c_42 (by rw [z, nI_mul, nI_add])), List.tail_drop] at hQ
      exact hQ
    · have c_42 := Decidable.of_not_not c_42
      refine r_aload_n k_161_45 rfl ?_
      refine r_get m_161 k_161_46 fl_8_72 rfl rfl ?_
      refine r_sipush k_161_49 cs_924 ?_
      refine r_iload k_161_52 rfl ?_
      refine r_imul k_161_54 ?_
      refine r_aload_n k_161_55 rfl ?_
      refine r_get m_161 k_161_56 fl_8_75 rfl rfl ?_
      refine r_iload k_161_59 rfl ?_
      refine r_ialdn (k := i) k_161_61 rfl (Or.inl rfl) rfl (by omega) (by decide) ?_
      rw [show hm_x m S 29 i = nI q from hps i q hq]
      refine r_iadd k_161_62 ?_
      refine r_ialdn (k := 924 * i + q) k_161_63 rfl (Or.inl rfl) (by rw [nI_mul, nI_add]) (by have := (List.getElem?_eq_some_iff.mp hy).1; have := hLn (x / 4); omega) (by decide) ?_
      refine r_goto k_161_64 rfl ?_
      refine r_istore k_161_69 rfl ?_
      refine r_iincn k_161_71 rfl (nI_inc i) rfl ?_
      refine r_goto k_161_74 rfl ?_
      refine ih (i + 1) _ (by omega) ?_
      rw [hdT, show hm_pk LL (4 * c + t) (x :: Ts.drop (i + 1)) (ps.drop i) a = hm_pk LL (4 * c + t) (Ts.drop (i + 1)) (ps.drop i).tail (if x = 4 * c + t then (LL (x / 4))[(ps.drop i).headD 0]?.getD 0 else a) from rfl, if_pos (hm_nIinj (by rw [c_42, nI_mul, nI_add]) (by omega)), List.tail_drop, hhd, hy] at hQ
      rw [show hm_x m S 28 (924 * i + q) = y from h3 q y hy]
      exact hQ
set_option maxRecDepth 20000 in
theorem s_161 {d n s : Nat} {m : hm_M} {h : Nat → Option va_E} {Q : Option Value → hm_H → Prop} {nc nb : Nat} {LL : Nat → List Int32} (G : hm_G m nc nb LL) {c t : Nat} (hc : c < nc) (ht : t < 4) (hx : 0 ≤ m 15 (4 * c + t)) (hQ : ∀ S2, Q (some (.int (hm_sof m LL nc c t))) (hm_hM (hm_x m S2) h n s)) : hm_T (d + 2) 161 0 [.ref 61, .int (nI c), .int (nI t), .retAddr 0, .retAddr 0, .retAddr 0] [] (hm_hM m h n s) Q := by
  have hnc := G.hnc
  refine r_aload_n k_161_0 rfl ?_
  refine r_aload_n k_161_1 rfl ?_
  refine r_iload_n k_161_2 rfl ?_
  refine r_iload_n k_161_3 rfl ?_
  refine r_callv3 m_161 k_161_4 cl_8_92 m_122 (by decide) rfl rfl (Nat.le_of_ble_eq_true rfl) (Nat.le_of_ble_eq_true rfl) rfl rfl ?_
  refine s_122 (c := c) (t := t) (by omega) ht ?_
  refine r_callv2 m_161 k_161_7 cl_8_196 m_154 (by decide) rfl rfl (Nat.le_of_ble_eq_true rfl) (Nat.le_of_ble_eq_true rfl) rfl rfl ?_
  rw [show hm_hM m h n s = hm_hM (hm_x m m) h n s by rw [hm_x_i]]
  refine s_154 G.hn G.hnc G.hnb G.hb G.hLn G.hLL (G.hT2 _ hx) (fun S2 hS2 => ?_)
  show hm_T _ 161 _ _ [.int _] _ _
  refine r_istore_n k_161_10 rfl ?_
  refine r_iconst k_161_11 ci_0 ?_
  refine r_istore k_161_12 rfl ?_
  refine r_iconst k_161_14 ci_0 ?_
  refine r_istore k_161_15 rfl ?_
  cases hfs : hm_fs m LL (m 15 (4 * c + t)) nc with
  | none =>
    have hQ2 := hQ S2
    rw [show hm_sof m LL nc c t = nI 0 by unfold hm_sof; rw [hfs]] at hQ2
    refine r_iload k_161_17 rfl ?_
    refine r_aload_n k_161_19 rfl ?_
    refine r_get m_161 k_161_20 fl_8_199 rfl rfl ?_
    refine r_icmp_ge k_161_23 rfl (fun c_23 => ?_) (fun c_23 => ?_)
    · refine r_iload k_161_77 rfl ?_
      exact hm_T.ret m_161 k_161_79 rfl hQ2
    · refine r_iload_n k_161_26 rfl ?_
      refine r_if_eq k_161_27 rfl (fun c_27 => ?_) (fun z => absurd rfl z)
      refine r_iload k_161_77 rfl ?_
      exact hm_T.ret m_161 k_161_79 rfl hQ2
  | some ps =>
    obtain ⟨h1, h2⟩ := hS2 ps hfs
    have hl := hm_ff_len (show hm_ff _ _ = some ps from hfs)
    have hQ2 := hQ S2
    rw [show hm_sof m LL nc c t = hm_pk LL (4 * c + t) (hm_tl m (m 15 (4 * c + t)) (4 * nc)) ps (nI 0) by unfold hm_sof; rw [hfs]] at hQ2
    refine l_161 (by omega) ht h1 (G.hT2 _ hx) (fun i x hxx => ?_) h2 (fun i x hxx => ?_) G.hLn (hm_tl m (m 15 (4 * c + t)) (4 * nc)).length 0 (nI 0) (by omega) hQ2
    · have := hm_tl_lt m _ (4 * nc) x (List.mem_of_getElem? hxx)
      omega
    · exact hl.2 i _ (by rw [List.getElem?_map, hxx]; rfl)
def hm_pmd (m : hm_M) (LL : Nat → List Int32) (nc c t w : Nat) : Int32 := if w = 0 then m 15 (4 * c + t) else if 0 ≤ m 15 (4 * c + t) then (if w = 1 then (if t = 1 then hm_ch (hm_opn m (m 15 (4 * c + 1))) 3 0 (nI (hm_cnt (fun i => decide (m 15 (4 * i + 1) = m 15 (4 * c + 1))) c)) else -1) else if t = 1 ∨ t = 3 then hm_sof m LL nc c t else nI 0) else if w = 2 then nI 0 else m 15 (4 * c + t)
def op_promised (m : hm_M) (LL : Nat → List Int32) (nc : Nat) (c t w : Int32) : Int32 := if (0 ≤ c.toInt ∧ c.toInt < nc) then (if (0 ≤ t.toInt ∧ t.toInt ≤ 3) then (if (0 ≤ w.toInt ∧ w.toInt ≤ 2) then hm_pmd m LL nc c.toNatClampNeg t.toNatClampNeg w.toNatClampNeg else -1002) else -1002) else -1001
set_option maxRecDepth 20000 in
theorem s_159 {d n s : Nat} {m : hm_M} {h : Nat → Option va_E} {Q : Option Value → hm_H → Prop} {nc nb : Nat} {LL : Nat → List Int32} (G : hm_G m nc nb LL) {c t w : Int32} (hQ : ∀ S2, Q (some (.int (op_promised m LL nc c t w))) (hm_hM (hm_x m S2) h n s)) : hm_T (d + 3) 159 0 [.ref 61, .int c, .int t, .int w, .retAddr 0] [] (hm_hM m h n s) Q := by
  refine r_aload_n k_159_0 rfl ?_
  refine r_iload_n k_159_1 rfl ?_
  refine r_callv2 m_159 k_159_2 cl_8_213 m_148 (by decide) rfl rfl (Nat.le_of_ble_eq_true rfl) (Nat.le_of_ble_eq_true rfl) rfl rfl ?_
  refine s_148 G.hn G.hnc ?_
  refine r_if_ne k_159_5 rfl (fun c_5 => ?_) (fun c_5 => ?_)
  · have c_5 := hm_if1 c_5
    refine r_iload_n k_159_12 rfl ?_
    refine r_calls1 m_159 k_159_13 cl_8_165 m_144 (by decide) rfl rfl (Nat.le_of_ble_eq_true rfl) (Nat.le_of_ble_eq_true rfl) ?_
    refine s_144 ?_
    refine r_if_eq k_159_16 rfl (fun c_16 => ?_) (fun c_16 => ?_)
    · have c_16 := hm_if0 c_16
      refine r_sipush k_159_31 cs_m1002 ?_
      exact hm_T.ret m_159 k_159_34 rfl (by have e := hQ m; rw [hm_x_i] at e; unfold op_promised at e; rw [if_pos c_5, if_neg c_16] at e; exact e)
    · have c_16 := hm_if1 c_16
      refine r_iload_n k_159_19 rfl ?_
      refine r_i2l k_159_20 ?_
      refine r_lconst k_159_21 cl_0 ?_
      refine r_ldc2_w m_159 k_159_22 ll_8_103 ?_
      refine r_calls3 m_159 k_159_25 cl_8_84 m_119 (by decide) rfl rfl (Nat.le_of_ble_eq_true rfl) (Nat.le_of_ble_eq_true rfl) ?_
      refine s_119 ?_
      rw [hm_ifc (hm_rngE2 w (a := 0) (b := 2) (lo := 0) (hi := 2) (by decide +kernel) (by decide +kernel))]
      refine r_if_ne k_159_28 rfl (fun c_28 => ?_) (fun c_28 => ?_)
      · have c_28 := hm_if1 c_28
        obtain ⟨ck, ckb, rfl, -, ckc⟩ := hm_nIof2 c_5.1 (N := nc) (by omega)
        obtain ⟨tk, tkb, rfl, -, tkc⟩ := hm_nIof2 c_16.1 (N := 4) (by omega)
        obtain ⟨wk, wkb, rfl, -, wkc⟩ := hm_nIof2 c_28.1 (N := 3) (by omega)
        have hnc := G.hnc
        refine r_aload_n k_159_35 rfl ?_
        refine r_iload_n k_159_36 rfl ?_
        refine r_iload_n k_159_37 rfl ?_
        refine r_callv3 m_159 k_159_38 cl_8_92 m_122 (by decide) rfl rfl (Nat.le_of_ble_eq_true rfl) (Nat.le_of_ble_eq_true rfl) rfl rfl ?_
        refine s_122 (c := ck) (t := tk) (by omega) tkb ?_
        refine r_istore k_159_41 rfl ?_
        refine r_iload_n k_159_43 rfl ?_
        refine r_if_eq k_159_44 rfl (fun c_44 => ?_) (fun c_44 => ?_)
        · refine r_iload_n k_159_52 rfl ?_
          refine r_iconst k_159_53 ci_2 ?_
          refine r_icmp_ne k_159_54 rfl (fun c_54 => ?_) (fun c_54 => ?_)
          · refine r_iload k_159_61 rfl ?_
            exact hm_T.ret m_159 k_159_63 rfl (by have e := hQ m; rw [hm_x_i] at e; unfold op_promised at e; rw [if_pos c_5, if_pos c_16, if_pos c_28, ckc, tkc, wkc] at e; unfold hm_pmd at e; rw [if_pos (hm_nIinj (b := 0) c_44 (by omega))] at e; exact e)
          · have c_54 := Decidable.of_not_not c_54
            refine r_iconst k_159_57 ci_0 ?_
            refine r_goto k_159_58 rfl ?_
            exact hm_T.ret m_159 k_159_63 rfl (absurd (c_44.symm.trans c_54) (by decide))
        · refine r_iload k_159_47 rfl ?_
          refine r_if_ge k_159_49 rfl (fun c_49 => ?_) (fun c_49 => ?_)
          · refine r_iload_n k_159_64 rfl ?_
            refine r_iconst k_159_65 ci_1 ?_
            refine r_icmp_ne k_159_66 rfl (fun c_66 => ?_) (fun c_66 => ?_)
            · refine r_iload_n k_159_86 rfl ?_
              refine r_iconst k_159_87 ci_1 ?_
              refine r_icmp_eq k_159_88 rfl (fun c_88 => ?_) (fun c_88 => ?_)
              · refine r_aload_n k_159_96 rfl ?_
                refine r_iload_n k_159_97 rfl ?_
                refine r_iload_n k_159_98 rfl ?_
                refine r_callv3 m_159 k_159_99 cl_8_229 m_161 (by decide) rfl rfl (Nat.le_of_ble_eq_true rfl) (Nat.le_of_ble_eq_true rfl) rfl rfl ?_
                refine s_161 G (c := ck) (t := tk) ckb tkb c_49 (fun S2 => ?_)
                refine r_goto k_159_102 rfl ?_
                exact hm_T.ret m_159 k_159_106 rfl (by have e := hQ S2; unfold op_promised at e; rw [if_pos c_5, if_pos c_16, if_pos c_28, ckc, tkc, wkc] at e; unfold hm_pmd at e; rw [if_neg (fun z => c_44 (congrArg nI z)), if_pos c_49, if_neg (fun z => c_66 (congrArg nI z)), if_pos (Or.inl (hm_nIinj c_88 (by omega)))] at e; exact e)
              · refine r_iload_n k_159_91 rfl ?_
                refine r_iconst k_159_92 ci_3 ?_
                refine r_icmp_ne k_159_93 rfl (fun c_93 => ?_) (fun c_93 => ?_)
                · refine r_iconst k_159_105 ci_0 ?_
                  exact hm_T.ret m_159 k_159_106 rfl (by have e := hQ m; rw [hm_x_i] at e; unfold op_promised at e; rw [if_pos c_5, if_pos c_16, if_pos c_28, ckc, tkc, wkc] at e; unfold hm_pmd at e; rw [if_neg (fun z => c_44 (congrArg nI z)), if_pos c_49, if_neg (fun z => c_66 (congrArg nI z)), if_neg (fun z => z.elim (fun z => c_88 (by rw [z])) (fun z => c_93 (by rw [z])))] at e; exact e)
                · have c_93 := Decidable.of_not_not c_93
                  refine r_aload_n k_159_96 rfl ?_
                  refine r_iload_n k_159_97 rfl ?_
                  refine r_iload_n k_159_98 rfl ?_
                  refine r_callv3 m_159 k_159_99 cl_8_229 m_161 (by decide) rfl rfl (Nat.le_of_ble_eq_true rfl) (Nat.le_of_ble_eq_true rfl) rfl rfl ?_
                  refine s_161 G (c := ck) (t := tk) ckb tkb c_49 (fun S2 => ?_)
                  refine r_goto k_159_102 rfl ?_
                  exact hm_T.ret m_159 k_159_106 rfl (by have e := hQ S2; unfold op_promised at e; rw [if_pos c_5, if_pos c_16, if_pos c_28, ckc, tkc, wkc] at e; unfold hm_pmd at e; rw [if_neg (fun z => c_44 (congrArg nI z)), if_pos c_49, if_neg (fun z => c_66 (congrArg nI z)), if_pos (Or.inr (hm_nIinj c_93 (by omega)))] at e; exact e)
            · have c_66 := Decidable.of_not_not c_66
              refine r_iload_n k_159_69 rfl ?_
              refine r_iconst k_159_70 ci_1 ?_
              refine r_icmp_ne k_159_71 rfl (fun c_71 => ?_) (fun c_71 => ?_)
              · refine r_iconst k_159_82 ci_m1 ?_
                refine r_goto k_159_83 rfl ?_
                exact hm_T.ret m_159 k_159_106 rfl (by have e := hQ m; rw [hm_x_i] at e; unfold op_promised at e; rw [if_pos c_5, if_pos c_16, if_pos c_28, ckc, tkc, wkc] at e; unfold hm_pmd at e; rw [if_neg (fun z => c_44 (congrArg nI z)), if_pos c_49, if_pos (hm_nIinj c_66 (by omega)), if_neg (fun z => c_71 (congrArg nI z))] at e; exact e)
              · have c_71 := Decidable.of_not_not c_71
                refine r_aload_n k_159_74 rfl ?_
                refine r_iload_n k_159_75 rfl ?_
                refine r_callv2 m_159 k_159_76 cl_8_226 m_160 (by decide) rfl rfl (Nat.le_of_ble_eq_true rfl) (Nat.le_of_ble_eq_true rfl) rfl rfl ?_
                refine s_160 (c := ck) (by omega) ?_
                refine r_goto k_159_79 rfl ?_
                exact hm_T.ret m_159 k_159_106 rfl (by have e := hQ m; rw [hm_x_i] at e; unfold op_promised at e; rw [if_pos c_5, if_pos c_16, if_pos c_28, ckc, tkc, wkc] at e; unfold hm_pmd at e; rw [if_neg (fun z => c_44 (congrArg nI z)), if_pos c_49, if_pos (hm_nIinj c_66 (by omega)), if_pos (hm_nIinj c_71 (by omega))] at e; exact e)
          · refine r_iload_n k_159_52 rfl ?_
            refine r_iconst k_159_53 ci_2 ?_
            refine r_icmp_ne k_159_54 rfl (fun c_54 => ?_) (fun c_54 => ?_)
            · refine r_iload k_159_61 rfl ?_
              exact hm_T.ret m_159 k_159_63 rfl (by have e := hQ m; rw [hm_x_i] at e; unfold op_promised at e; rw [if_pos c_5, if_pos c_16, if_pos c_28, ckc, tkc, wkc] at e; unfold hm_pmd at e; rw [if_neg (fun z => c_44 (congrArg nI z)), if_neg c_49, if_neg (fun z => c_54 (congrArg nI z))] at e; exact e)
            · have c_54 := Decidable.of_not_not c_54
              refine r_iconst k_159_57 ci_0 ?_
              refine r_goto k_159_58 rfl ?_
              exact hm_T.ret m_159 k_159_63 rfl (by have e := hQ m; rw [hm_x_i] at e; unfold op_promised at e; rw [if_pos c_5, if_pos c_16, if_pos c_28, ckc, tkc, wkc] at e; unfold hm_pmd at e; rw [if_neg (fun z => c_44 (congrArg nI z)), if_neg c_49, if_pos (hm_nIinj c_54 (by omega))] at e; exact e)
      · have c_28 := hm_if0 (Decidable.of_not_not c_28)
        refine r_sipush k_159_31 cs_m1002 ?_
        exact hm_T.ret m_159 k_159_34 rfl (by have e := hQ m; rw [hm_x_i] at e; unfold op_promised at e; rw [if_pos c_5, if_pos c_16, if_neg c_28] at e; exact e)
  · have c_5 := hm_if0 (Decidable.of_not_not c_5)
    refine r_sipush k_159_8 cs_m1001 ?_
    exact hm_T.ret m_159 k_159_11 rfl (by have e := hQ m; rw [hm_x_i] at e; unfold op_promised at e; rw [if_neg c_5] at e; exact e)
def hm_by (b : Int64) (k : Nat) : Int32 := (b >>> ((nI 8 * nI k).toInt64 &&& 63) &&& 255).toInt32
def hm_fd (b : Int64) : Nat → Nat → hm_M → hm_M
  | 0, _, m => m
  | k + 1, tx, m => hm_fd b k (tx + 1) (hm_uM (hm_uM m 6 (upd (m 6) tx (hm_by b k))) 7 (fun _ => nI tx + nI 1))
theorem hm_fd_7 (b : Int64) : ∀ (k tx : Nat) (m : hm_M), m 7 0 = nI tx → hm_fd b k tx m 7 0 = nI (tx + k) := by
  intro k
  induction k with
  | zero => intro tx m h; exact h
  | succ k ih =>
    intro tx m h
    have e := ih (tx + 1) (hm_uM (hm_uM m 6 (upd (m 6) tx (hm_by b k))) 7 (fun _ => nI tx + nI 1)) (nI_add tx 1)
    rw [show tx + 1 + k = tx + (k + 1) by omega] at e
    exact e
set_option maxRecDepth 20000 in
theorem l_128 {d n s : Nat} {h : Nat → Option va_E} {Q : Option Value → hm_H → Prop} {x : Int32} {b : Int64} : ∀ (k tx : Nat) (m : hm_M), m 7 0 = nI tx → tx + k ≤ 100 → Q (some (.int (nI (tx + k)))) (hm_hM (hm_fd b k tx m) h n s) → hm_T d 128 36 [.ref 61, .int x, .long b, .retAddr 0, .int (hm_dn k)] [] (hm_hM m h n s) Q := by
  intro k
  induction k with
  | zero =>
    intro tx m ht htk hQ
    refine r_iload k_128_36 rfl ?_
    refine r_if_lt k_128_38 rfl (fun c_38 => ?_) (fun z => absurd (show (-1 : Int32) < 0 by decide) z)
    refine r_aload_n k_128_78 rfl ?_
    refine r_get m_128 k_128_79 fl_8_127 rfl rfl ?_
    rw [show m 7 0 = nI tx from ht]
    exact hm_T.ret m_128 k_128_82 rfl hQ
  | succ k ih =>
    intro tx m ht htk hQ
    refine r_iload k_128_36 rfl ?_
    refine r_if_lt k_128_38 rfl (fun z => absurd z (nI_pos (n := k) (by omega))) (fun c_38 => ?_)
    refine r_aload_n k_128_41 rfl ?_
    refine r_get m_128 k_128_42 fl_8_25 rfl rfl ?_
    refine r_aload_n k_128_45 rfl ?_
    refine r_get m_128 k_128_46 fl_8_127 rfl rfl ?_
    rw [show m 7 0 = nI tx from ht]
    refine r_lload_n k_128_49 rfl ?_
    refine r_bipush k_128_50 cb_8 ?_
    refine r_iload k_128_52 rfl ?_
    refine r_imul k_128_54 ?_
    refine r_lshr k_128_55 ?_
    refine r_ldc2_w m_128 k_128_56 ll_8_130 ?_
    refine r_land k_128_59 ?_
    refine r_l2i k_128_60 (show hm_T _ _ _ _ (.int (hm_by b k) :: _) _ _ from ?_)
    refine r_iastn (k := tx) k_128_61 rfl rfl rfl (by omega) (by decide) (wM_6 _) ?_
    refine r_aload_n k_128_62 rfl ?_
    refine r_dup k_128_63 rfl ?_
    refine r_get m_128 k_128_64 fl_8_127 rfl rfl ?_
    rw [show hm_uM m 6 (upd (m 6) tx (hm_by b k)) 7 0 = nI tx from ht]
    refine r_iconst k_128_67 ci_1 ?_
    refine r_iadd k_128_68 ?_
    refine r_put m_128 k_128_69 fl_8_127 rfl (Nat.le_of_ble_eq_true rfl) rfl rfl (wM_7 _) ?_
    refine r_iincn k_128_72 rfl (hm_dn_dec k) rfl ?_
    refine r_goto k_128_75 rfl ?_
    refine ih (tx + 1) _ (nI_add tx 1) (by omega) ?_
    rw [show tx + (k + 1) = tx + 1 + k by omega] at hQ
    exact hQ
set_option maxRecDepth 20000 in
theorem s_128_out {d n s : Nat} {m : hm_M} {h : Nat → Option va_E} {Q : Option Value → hm_H → Prop} {x : Int32} {b : Int64} (hx : ¬ (1 ≤ x.toInt ∧ x.toInt ≤ 8)) (hQ : Q (some (.int (-1002))) (hm_hM m h n s)) : hm_T (d + 1) 128 0 [.ref 61, .int x, .long b, .retAddr 0, .retAddr 0] [] (hm_hM m h n s) Q := by
  refine r_iload_n k_128_0 rfl ?_
  refine r_i2l k_128_1 ?_
  refine r_lconst k_128_2 cl_1 ?_
  refine r_ldc2_w m_128 k_128_3 ll_8_107 ?_
  refine r_calls3 m_128 k_128_6 cl_8_84 m_119 (by decide) rfl rfl (Nat.le_of_ble_eq_true rfl) (Nat.le_of_ble_eq_true rfl) ?_
  refine s_119 ?_
  rw [hm_ifc (hm_rngE2 x (a := 1) (b := 8) (lo := 1) (hi := 8) (by decide +kernel) (by decide +kernel))]
  rw [if_neg hx]
  refine r_if_ne k_128_9 rfl (fun z => absurd z (fun z => z rfl)) (fun c_9 => ?_)
  refine r_sipush k_128_12 cs_m1002 ?_
  exact hm_T.ret m_128 k_128_15 rfl hQ
set_option maxRecDepth 20000 in
theorem s_128_full {d n s : Nat} {m : hm_M} {h : Nat → Option va_E} {Q : Option Value → hm_H → Prop} {N tx : Nat} {b : Int64} (ht : m 7 0 = nI tx) (hN : 1 ≤ N ∧ N ≤ 8) (htx : tx ≤ 100) (hf : 100 < tx + N) (hQ : Q (some (.int (-1004))) (hm_hM m h n s)) : hm_T (d + 1) 128 0 [.ref 61, .int (nI N), .long b, .retAddr 0, .retAddr 0] [] (hm_hM m h n s) Q := by
  refine r_iload_n k_128_0 rfl ?_
  refine r_i2l k_128_1 ?_
  refine r_lconst k_128_2 cl_1 ?_
  refine r_ldc2_w m_128 k_128_3 ll_8_107 ?_
  refine r_calls3 m_128 k_128_6 cl_8_84 m_119 (by decide) rfl rfl (Nat.le_of_ble_eq_true rfl) (Nat.le_of_ble_eq_true rfl) ?_
  refine s_119 ?_
  rw [hm_ifc (hm_rngE2 (nI N) (a := 1) (b := 8) (lo := 1) (hi := 8) (by decide +kernel) (by decide +kernel))]
  rw [if_pos (by rw [nI_toInt (by omega)]; omega)]
  refine r_if_ne k_128_9 rfl (fun c_9 => ?_) (fun z => absurd (show ¬ (1 : Int32) = 0 by decide) z)
  refine r_aload_n k_128_16 rfl ?_
  refine r_get m_128 k_128_17 fl_8_127 rfl rfl ?_
  rw [show m 7 0 = nI tx from ht]
  refine r_iload_n k_128_20 rfl ?_
  refine r_iadd k_128_21 ?_
  rw [nI_add]
  refine r_bipush k_128_22 cb_100 ?_
  refine r_icmp_le k_128_24 rfl (fun z => absurd z (nI_ge (a := 100) (b := tx + N) (by omega) (by omega))) (fun c_24 => ?_)
  refine r_sipush k_128_27 cs_m1004 ?_
  exact hm_T.ret m_128 k_128_30 rfl hQ
set_option maxRecDepth 20000 in
theorem s_128 {d n s : Nat} {m : hm_M} {h : Nat → Option va_E} {Q : Option Value → hm_H → Prop} {N tx : Nat} {b : Int64} (ht : m 7 0 = nI tx) (hN : 1 ≤ N ∧ N ≤ 8) (hf : tx + N ≤ 100) (hQ : Q (some (.int (nI (tx + N)))) (hm_hM (hm_fd b N tx m) h n s)) : hm_T (d + 1) 128 0 [.ref 61, .int (nI N), .long b, .retAddr 0, .retAddr 0] [] (hm_hM m h n s) Q := by
  refine r_iload_n k_128_0 rfl ?_
  refine r_i2l k_128_1 ?_
  refine r_lconst k_128_2 cl_1 ?_
  refine r_ldc2_w m_128 k_128_3 ll_8_107 ?_
  refine r_calls3 m_128 k_128_6 cl_8_84 m_119 (by decide) rfl rfl (Nat.le_of_ble_eq_true rfl) (Nat.le_of_ble_eq_true rfl) ?_
  refine s_119 ?_
  rw [hm_ifc (hm_rngE2 (nI N) (a := 1) (b := 8) (lo := 1) (hi := 8) (by decide +kernel) (by decide +kernel))]
  rw [if_pos (by rw [nI_toInt (by omega)]; omega)]
  refine r_if_ne k_128_9 rfl (fun c_9 => ?_) (fun z => absurd (show ¬ (1 : Int32) = 0 by decide) z)
  refine r_aload_n k_128_16 rfl ?_
  refine r_get m_128 k_128_17 fl_8_127 rfl rfl ?_
  rw [show m 7 0 = nI tx from ht]
  refine r_iload_n k_128_20 rfl ?_
  refine r_iadd k_128_21 ?_
  rw [nI_add]
  refine r_bipush k_128_22 cb_100 ?_
  refine r_icmp_le k_128_24 rfl (fun c_24 => ?_) (fun z => absurd (nI_le (show tx + N ≤ 100 by omega) (by omega)) z)
  refine r_iload_n k_128_31 rfl ?_
  refine r_iconst k_128_32 ci_1 ?_
  refine r_isub k_128_33 ?_
  rw [hm_dn_sub]
  refine r_istore k_128_34 rfl ?_
  exact l_128 N tx m ht hf hQ
