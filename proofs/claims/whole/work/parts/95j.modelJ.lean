def hm_rmx (P : Nat → Bool) (e : Int32) : Nat → Nat → Bool → Bool
  | 0, _, b => b
  | k + 1, j, b => if e < nI j then b else hm_rmx P e k (j + 1) (b || P j)
def hm_prm (m : hm_M) (nc hh : Nat) : Bool := decide (¬ nI (hm_cnt (fun c => decide (¬ m 15 (4 * c + 0) < 0) && decide ((m 15 (4 * c + 0)).toInt ≤ (nI hh).toInt ∧ (nI hh).toInt ≤ (hm_re (m 15 (4 * c + 2)) (m 15 (4 * c + 3))).toInt)) nc) < m 0 2)
def hm_plm (m : hm_M) (nc c hh : Nat) : Nat → Bool
  | 0 => hm_rmx (hm_prm m nc) (hm_re (m 15 (4 * c + 2)) (m 15 (4 * c + 3))) (400 - hh) hh false
  | 1 => decide (¬ nI (hm_cnt (fun c => decide (m 15 (4 * c + 1) = nI hh)) nc) < hm_sg (fun k => m 1 k >>> ((nI hh - nI hh / nI 10 * nI 10) &&& 31) &&& nI 1) 3)
  | 2 => decide (¬ nI (hm_cnt (fun c => decide (m 15 (4 * c + 2) = nI hh)) nc) < m 0 1)
  | _ => false
set_option maxRecDepth 20000 in
theorem s_153_1 {d n s : Nat} {m : hm_M} {h : Nat → Option va_E} {Q : Option Value → hm_H → Prop} {nc : Nat} (hn : m 9 0 = nI nc) (hnc : nc ≤ 16) {c hh : Nat} (hQ : Q (some (.int (hm_bi (hm_plm m nc c hh 1)))) (hm_hM m h n s)) : hm_T (d + 3) 153 0 [.ref 61, .int (nI c), .int (nI 1), .int (nI hh), .retAddr 0, .retAddr 0] [] (hm_hM m h n s) Q := by
  refine r_iload_n k_153_0 rfl ?_
  refine r_iconst k_153_1 ci_1 ?_
  refine r_icmp_ne k_153_2 rfl (fun z => absurd z (fun z => z (by decide))) (fun c_2 => ?_)
  refine r_aload_n k_153_5 rfl ?_
  refine r_iload_n k_153_6 rfl ?_
  refine r_iconst k_153_7 ci_1 ?_
  refine r_callv3 m_153 k_153_8 cl_8_96 m_121 (by decide) rfl rfl (Nat.le_of_ble_eq_true rfl) (Nat.le_of_ble_eq_true rfl) rfl rfl ?_
  refine s_121 (t := 1) hn hnc (by decide) ?_
  refine r_aload_n k_153_11 rfl ?_
  refine r_iload_n k_153_12 rfl ?_
  refine r_callv2 m_153 k_153_13 cl_8_117 m_126 (by decide) rfl rfl (Nat.le_of_ble_eq_true rfl) (Nat.le_of_ble_eq_true rfl) rfl rfl ?_
  refine s_126 ?_
  refine r_icmp_lt k_153_16 rfl (fun c_16 => ?_) (fun c_16 => ?_)
  · refine r_iconst k_153_23 ci_0 ?_
    exact hm_T.ret m_153 k_153_24 rfl (by rw [show hm_plm m nc c hh 1 = false from decide_eq_false (fun z => z c_16)] at hQ; exact hQ)
  · refine r_iconst k_153_19 ci_1 ?_
    refine r_goto k_153_20 rfl ?_
    exact hm_T.ret m_153 k_153_24 rfl (by rw [show hm_plm m nc c hh 1 = true from decide_eq_true c_16] at hQ; exact hQ)
set_option maxRecDepth 20000 in
theorem s_153_2 {d n s : Nat} {m : hm_M} {h : Nat → Option va_E} {Q : Option Value → hm_H → Prop} {nc : Nat} (hn : m 9 0 = nI nc) (hnc : nc ≤ 16) {c hh : Nat} (hQ : Q (some (.int (hm_bi (hm_plm m nc c hh 2)))) (hm_hM m h n s)) : hm_T (d + 3) 153 0 [.ref 61, .int (nI c), .int (nI 2), .int (nI hh), .retAddr 0, .retAddr 0] [] (hm_hM m h n s) Q := by
  refine r_iload_n k_153_0 rfl ?_
  refine r_iconst k_153_1 ci_1 ?_
  refine r_icmp_ne k_153_2 rfl (fun c_2 => ?_) (fun z => absurd (by decide) z)
  refine r_iload_n k_153_25 rfl ?_
  refine r_iconst k_153_26 ci_2 ?_
  refine r_icmp_ne k_153_27 rfl (fun z => absurd z (fun z => z (by decide))) (fun c_27 => ?_)
  refine r_aload_n k_153_30 rfl ?_
  refine r_iload_n k_153_31 rfl ?_
  refine r_iconst k_153_32 ci_2 ?_
  refine r_callv3 m_153 k_153_33 cl_8_96 m_121 (by decide) rfl rfl (Nat.le_of_ble_eq_true rfl) (Nat.le_of_ble_eq_true rfl) rfl rfl ?_
  refine s_121 (t := 2) hn hnc (by decide) ?_
  refine r_aload_n k_153_36 rfl ?_
  refine r_get m_153 k_153_37 fl_8_7 rfl rfl ?_
  refine r_iconst k_153_40 ci_1 ?_
  refine r_ialdn (k := 1) k_153_41 rfl (Or.inl rfl) rfl (by decide) (by decide) ?_
  refine r_icmp_lt k_153_42 rfl (fun c_42 => ?_) (fun c_42 => ?_)
  · refine r_iconst k_153_49 ci_0 ?_
    exact hm_T.ret m_153 k_153_50 rfl (by rw [show hm_plm m nc c hh 2 = false from decide_eq_false (fun z => z c_42)] at hQ; exact hQ)
  · refine r_iconst k_153_45 ci_1 ?_
    refine r_goto k_153_46 rfl ?_
    exact hm_T.ret m_153 k_153_50 rfl (by rw [show hm_plm m nc c hh 2 = true from decide_eq_true c_42] at hQ; exact hQ)
set_option maxRecDepth 20000 in
theorem l_153 {d n s : Nat} {m : hm_M} {h : Nat → Option va_E} {Q : Option Value → hm_H → Prop} {nc : Nat} (hn : m 9 0 = nI nc) (hnc : nc ≤ 16) {c : Nat} {x3 : Int32} (hc : c < 16) (he : (hm_re (m 15 (4 * c + 2)) (m 15 (4 * c + 3))) < nI 400) : ∀ (k j : Nat) (b : Bool), j + k = 400 → Q (some (.int (hm_bi (hm_rmx (hm_prm m nc) (hm_re (m 15 (4 * c + 2)) (m 15 (4 * c + 3))) k j b)))) (hm_hM m h n s) → hm_T (d + 3) 153 57 [.ref 61, .int (nI c), .int (nI 0), .int x3, .int (hm_bi b), .int (nI j)] [] (hm_hM m h n s) Q := by
  intro k
  induction k with
  | zero =>
    intro j b hj hQ
    refine r_iload k_153_57 rfl ?_
    refine r_aload_n k_153_59 rfl ?_
    refine r_iload_n k_153_60 rfl ?_
    refine r_callv2 m_153 k_153_61 cl_8_99 m_124 (by decide) rfl rfl (Nat.le_of_ble_eq_true rfl) (Nat.le_of_ble_eq_true rfl) rfl rfl ?_
    refine s_124 (c := c) hc ?_
    refine r_icmp_gt k_153_64 rfl (fun c_64 => ?_) (fun z => absurd (by rw [show j = 400 by omega]; exact he) z)
    refine r_iload k_153_104 rfl ?_
    exact r_retz m_153 k_153_106 rfl hm_bi01 hQ
  | succ k ih =>
    intro j b hj hQ
    refine r_iload k_153_57 rfl ?_
    refine r_aload_n k_153_59 rfl ?_
    refine r_iload_n k_153_60 rfl ?_
    refine r_callv2 m_153 k_153_61 cl_8_99 m_124 (by decide) rfl rfl (Nat.le_of_ble_eq_true rfl) (Nat.le_of_ble_eq_true rfl) rfl rfl ?_
    refine s_124 (c := c) hc ?_
    refine r_icmp_gt k_153_64 rfl (fun c_64 => ?_) (fun c_64 => ?_)
    · refine r_iload k_153_104 rfl ?_
      exact r_retz m_153 k_153_106 rfl hm_bi01 (by rw [show hm_rmx (hm_prm m nc) (hm_re (m 15 (4 * c + 2)) (m 15 (4 * c + 3))) (k + 1) j b = b from if_pos c_64] at hQ; exact hQ)
    · refine r_iload_n k_153_67 rfl ?_
      refine r_if_ne k_153_68 rfl (fun z => absurd z (fun z => z (by decide))) (fun c_68 => ?_)
      refine r_iload k_153_71 rfl ?_
      refine r_if_ne k_153_73 rfl (fun c_73 => ?_) (fun c_73 => ?_)
      · refine r_iconst k_153_91 ci_1 ?_
        refine r_goto k_153_92 rfl ?_
        refine r_istore k_153_96 rfl ?_
        refine r_iincn k_153_98 rfl (nI_inc j) rfl ?_
        refine r_goto k_153_101 rfl ?_
        have hb := hm_bi1 c_73
        subst hb
        refine ih (j + 1) true (by omega) ?_
        rw [show hm_rmx (hm_prm m nc) (hm_re (m 15 (4 * c + 2)) (m 15 (4 * c + 3))) (k + 1) j true = hm_rmx (hm_prm m nc) (hm_re (m 15 (4 * c + 2)) (m 15 (4 * c + 3))) k (j + 1) (true || hm_prm m nc j) from if_neg c_64] at hQ
        exact hQ
      · have c_73 := Decidable.of_not_not c_73
        refine r_aload_n k_153_76 rfl ?_
        refine r_iload k_153_77 rfl ?_
        refine r_callv2 m_153 k_153_79 cl_8_112 m_123 (by decide) rfl rfl (Nat.le_of_ble_eq_true rfl) (Nat.le_of_ble_eq_true rfl) rfl rfl ?_
        refine s_123 hn hnc ?_
        refine r_aload_n k_153_82 rfl ?_
        refine r_get m_153 k_153_83 fl_8_7 rfl rfl ?_
        refine r_iconst k_153_86 ci_2 ?_
        refine r_ialdn (k := 2) k_153_87 rfl (Or.inl rfl) rfl (by decide) (by decide) ?_
        refine r_icmp_lt k_153_88 rfl (fun c_88 => ?_) (fun c_88 => ?_)
        · refine r_iconst k_153_95 ci_0 ?_
          refine r_istore k_153_96 rfl ?_
          refine r_iincn k_153_98 rfl (nI_inc j) rfl ?_
          refine r_goto k_153_101 rfl ?_
          have hb := hm_bi0 c_73
          subst hb
          refine ih (j + 1) false (by omega) ?_
          rw [show hm_rmx (hm_prm m nc) (hm_re (m 15 (4 * c + 2)) (m 15 (4 * c + 3))) (k + 1) j false = hm_rmx (hm_prm m nc) (hm_re (m 15 (4 * c + 2)) (m 15 (4 * c + 3))) k (j + 1) (false || hm_prm m nc j) from if_neg c_64, show hm_prm m nc j = false from decide_eq_false (fun z => z c_88)] at hQ
          exact hQ
        · refine r_iconst k_153_91 ci_1 ?_
          refine r_goto k_153_92 rfl ?_
          refine r_istore k_153_96 rfl ?_
          refine r_iincn k_153_98 rfl (nI_inc j) rfl ?_
          refine r_goto k_153_101 rfl ?_
          have hb := hm_bi0 c_73
          subst hb
          refine ih (j + 1) true (by omega) ?_
          rw [show hm_rmx (hm_prm m nc) (hm_re (m 15 (4 * c + 2)) (m 15 (4 * c + 3))) (k + 1) j false = hm_rmx (hm_prm m nc) (hm_re (m 15 (4 * c + 2)) (m 15 (4 * c + 3))) k (j + 1) (false || hm_prm m nc j) from if_neg c_64, show hm_prm m nc j = true from decide_eq_true c_88] at hQ
          exact hQ
set_option maxRecDepth 20000 in
theorem s_153_0 {d n s : Nat} {m : hm_M} {h : Nat → Option va_E} {Q : Option Value → hm_H → Prop} {nc : Nat} (hn : m 9 0 = nI nc) (hnc : nc ≤ 16) {c hh : Nat} (hc : c < nc) (hh4 : hh < 400) (he : (hm_re (m 15 (4 * c + 2)) (m 15 (4 * c + 3))) < nI 400) (hQ : Q (some (.int (hm_bi (hm_plm m nc c hh 0)))) (hm_hM m h n s)) : hm_T (d + 3) 153 0 [.ref 61, .int (nI c), .int (nI 0), .int (nI hh), .retAddr 0, .retAddr 0] [] (hm_hM m h n s) Q := by
  refine r_iload_n k_153_0 rfl ?_
  refine r_iconst k_153_1 ci_1 ?_
  refine r_icmp_ne k_153_2 rfl (fun c_2 => ?_) (fun z => absurd (by decide) z)
  refine r_iload_n k_153_25 rfl ?_
  refine r_iconst k_153_26 ci_2 ?_
  refine r_icmp_ne k_153_27 rfl (fun c_27 => ?_) (fun z => absurd (by decide) z)
  refine r_iconst k_153_51 ci_0 ?_
  refine r_istore k_153_52 rfl ?_
  refine r_iload_n k_153_54 rfl ?_
  refine r_istore k_153_55 rfl ?_
  exact l_153 hn hnc (by omega) he (400 - hh) hh false (by omega) hQ
set_option maxRecDepth 20000 in
theorem s_153_3 {d n s : Nat} {m : hm_M} {h : Nat → Option va_E} {Q : Option Value → hm_H → Prop} {nc : Nat} (hn : m 9 0 = nI nc) (hnc : nc ≤ 16) {c hh : Nat} (hc : c < nc) (hh4 : hh < 400) (hQ : Q (some (.int (hm_bi (hm_plm m nc c hh 3)))) (hm_hM m h n s)) : hm_T (d + 3) 153 0 [.ref 61, .int (nI c), .int (nI 3), .int (nI hh), .retAddr 0, .retAddr 0] [] (hm_hM m h n s) Q := by
  refine r_iload_n k_153_0 rfl ?_
  refine r_iconst k_153_1 ci_1 ?_
  refine r_icmp_ne k_153_2 rfl (fun c_2 => ?_) (fun z => absurd (by decide) z)
  refine r_iload_n k_153_25 rfl ?_
  refine r_iconst k_153_26 ci_2 ?_
  refine r_icmp_ne k_153_27 rfl (fun c_27 => ?_) (fun z => absurd (by decide) z)
  refine r_iconst k_153_51 ci_0 ?_
  refine r_istore k_153_52 rfl ?_
  refine r_iload_n k_153_54 rfl ?_
  refine r_istore k_153_55 rfl ?_
  refine r_iload k_153_57 rfl ?_
  refine r_aload_n k_153_59 rfl ?_
  refine r_iload_n k_153_60 rfl ?_
  refine r_callv2 m_153 k_153_61 cl_8_99 m_124 (by decide) rfl rfl (Nat.le_of_ble_eq_true rfl) (Nat.le_of_ble_eq_true rfl) rfl rfl ?_
  refine s_124 (c := c) (by omega) ?_
  refine r_icmp_gt k_153_64 rfl (fun c_64 => ?_) (fun c_64 => ?_)
  · refine r_iload k_153_104 rfl ?_
    exact hm_T.ret m_153 k_153_106 rfl hQ
  · refine r_iload_n k_153_67 rfl ?_
    refine r_if_ne k_153_68 rfl (fun c_68 => ?_) (fun z => absurd (by decide) z)
    refine r_iload k_153_104 rfl ?_
    exact hm_T.ret m_153 k_153_106 rfl hQ
def hm_wl (m : hm_M) (c t : Nat) (hour : Int32) : Bool := hm_any (fun j => decide (¬ m 15 (4 * c + j) < 0) && (decide (¬ hour < m 15 (4 * c + j)) && decide (m 4 (20 * (m 10 c).toNatClampNeg + 5 * j + 4) >>> (nI t &&& 31) &&& nI 1 = nI 1))) 4
def hm_bz (m : hm_M) (c : Nat) (hour : Int32) : Bool := hm_any (fun j => decide (m 15 (4 * c + j) = hour)) 4
def hm_oe (m : hm_M) (c : Nat) : Nat → Bool
  | 2 => decide (0 ≤ m 15 (4 * c + 3))
  | 3 => decide (0 ≤ m 15 (4 * c + 2))
  | _ => false
def hm_hr (m : hm_M) (c t hh : Nat) : hm_M := hm_uM m 15 (upd (m 15) (4 * c + t) (nI hh))
def hm_may (m : hm_M) (LL : Nat → List Int32) (nc c t hh : Nat) : Int32 := if m 15 (4 * c + t) < 0 then (if hm_hn m c t (nI hh) ≤ 0 then (if hm_wl m c t (nI hh) = true then nI 7 else if hm_oe m c t = true then nI 8 else if hm_bz m c (nI hh) = true then nI 9 else if nI (hm_tkn m nc 0 hh) < m 0 0 then (if hm_plm m nc c hh t = true then nI 11 else if (t = 1 ∨ t = 3) ∧ ¬ m 12 c ≤ 0 then (if (hm_fs (hm_hr m c t hh) LL (nI hh) nc).isSome = true then nI 0 else nI 12) else nI 0) else nI 10) else hm_hn m c t (nI hh)) else nI 1
theorem hm_x_x (m S S2 : hm_M) : hm_x (hm_x m S) S2 = hm_x m S2 := by
  funext j
  show (if j < 25 then (if j < 25 then m j else S j) else S2 j) = (if j < 25 then m j else S2 j)
  by_cases h1 : j < 25
  · rw [if_pos h1, if_pos h1, if_pos h1]
  · rw [if_neg h1, if_neg h1]
theorem hm_rst {m : hm_M} {i : Nat} {x : Int32} (hi : m 15 i = -1) : hm_uM (hm_uM m 15 (upd (m 15) i x)) 15 (upd (upd (m 15) i x) i (-1)) = m := by
  rw [hm_uM2, upd_upd, ← hi, upd_self, hm_uMs]
set_option maxRecDepth 20000 in
theorem s_150_0 {d n s : Nat} {m : hm_M} {h : Nat → Option va_E} {Q : Option Value → hm_H → Prop} {nc : Nat} (hn : m 9 0 = nI nc) (hnc : nc ≤ 16) {c hh : Nat} (hc : c < nc) (hh4 : hh < 400) (hF : ∀ c, c < nc → ∃ f, m 10 c = nI f ∧ f < 4) {nb : Nat} {LL : Nat → List Int32} (hnb : nb ≤ 12) (hb : m 2 0 = nI nb) (hLn : ∀ c, (LL c).length ≤ 924) (hLL : ∀ c, c < nc → ¬ m 12 c ≤ 0 → ∃ mn, m 12 c = nI mn ∧ mn ≤ 6 ∧ hm_LL (m 3) (m 13 c) mn nb (LL c)) (hT : nI (hm_tkn m nc 0 hh) < m 0 0 → (hm_tl (hm_hr m c 0 hh) (nI hh) (4 * nc)).length ≤ 8) (he : (hm_re (m 15 (4 * c + 2)) (m 15 (4 * c + 3))) < nI 400) (hH : m 15 (4 * c + 0) < 0 → m 15 (4 * c + 0) = -1) (hQ : ∀ S2, Q (some (.int (hm_may m LL nc c 0 hh))) (hm_hM (hm_x m S2) h n s)) : hm_T (d + 4) 150 0 [.ref 61, .int (nI c), .int (nI 0), .int (nI hh), .retAddr 0, .retAddr 0] [] (hm_hM m h n s) Q := by
  obtain ⟨f, hf, hf4⟩ := hF c hc
  have hxe : hm_hn m c 0 (nI hh) = hm_hin m f c 0 (nI hh) := by unfold hm_hn; rw [hf, nI_clamp (by omega)]
  have hwe : hm_wl m c 0 (nI hh) = hm_any (fun j => decide (¬ m 15 (4 * c + j) < 0) && (decide (¬ (nI hh) < m 15 (4 * c + j)) && decide (m 4 (20 * f + 5 * j + 4) >>> (nI 0 &&& 31) &&& nI 1 = nI 1))) 4 := by unfold hm_wl; rw [hf, nI_clamp (by omega)]
  refine r_aload_n k_150_0 rfl ?_
  refine r_iload_n k_150_1 rfl ?_
  refine r_iload_n k_150_2 rfl ?_
  refine r_callv3 m_150 k_150_3 cl_8_92 m_122 (by decide) rfl rfl (Nat.le_of_ble_eq_true rfl) (Nat.le_of_ble_eq_true rfl) rfl rfl ?_
  refine s_122 (c := c) (t := 0) (by omega) (by decide) ?_
  refine r_if_lt k_150_6 rfl (fun c_6 => ?_) (fun c_6 => ?_)
  · refine r_aload_n k_150_11 rfl ?_
    refine r_iload_n k_150_12 rfl ?_
    refine r_iload_n k_150_13 rfl ?_
    refine r_iload_n k_150_14 rfl ?_
    refine r_callv4 m_150 k_150_15 cl_8_183 m_137 (by decide) rfl rfl (Nat.le_of_ble_eq_true rfl) (Nat.le_of_ble_eq_true rfl) rfl rfl ?_
    refine s_137 (c := c) (t := 0) (f := f) (by omega) (by decide) hf hf4 ?_
    refine r_istore k_150_18 rfl ?_
    refine r_iload k_150_20 rfl ?_
    refine r_if_le k_150_22 rfl (fun c_22 => ?_) (fun c_22 => ?_)
    · have hx : hm_hn m c 0 (nI hh) ≤ 0 := by rw [hxe]; exact c_22
      refine r_aload_n k_150_28 rfl ?_
      refine r_iload_n k_150_29 rfl ?_
      refine r_iload_n k_150_30 rfl ?_
      refine r_iload_n k_150_31 rfl ?_
      refine r_callv4 m_150 k_150_32 cl_8_186 m_151 (by decide) rfl rfl (Nat.le_of_ble_eq_true rfl) (Nat.le_of_ble_eq_true rfl) rfl rfl ?_
      refine s_151 (c := c) (t := 0) (f := f) (by omega) (by decide) hf hf4 ?_
      refine r_if_eq k_150_35 rfl (fun c_35 => ?_) (fun c_35 => ?_)
      · have hw : ¬ hm_wl m c 0 (nI hh) = true := by rw [hwe, hm_bi0 c_35]; decide
        refine r_iload_n k_150_41 rfl ?_
        refine r_iconst k_150_42 ci_2 ?_
        refine r_icmp_ne k_150_43 rfl (fun c_43 => ?_) (fun z => absurd (by decide) z)
        refine r_iload_n k_150_55 rfl ?_
        refine r_iconst k_150_56 ci_3 ?_
        refine r_icmp_ne k_150_57 rfl (fun c_57 => ?_) (fun z => absurd (by decide) z)
        refine r_aload_n k_150_72 rfl ?_
        refine r_iload_n k_150_73 rfl ?_
        refine r_iload_n k_150_74 rfl ?_
        refine r_callv3 m_150 k_150_75 cl_8_189 m_152 (by decide) rfl rfl (Nat.le_of_ble_eq_true rfl) (Nat.le_of_ble_eq_true rfl) rfl rfl ?_
        refine s_152 (c := c) (by omega) ?_
        refine r_if_eq k_150_78 rfl (fun c_78 => ?_) (fun c_78 => ?_)
        · have hz : ¬ hm_bz m c (nI hh) = true := by rw [show hm_bz m c (nI hh) = false from hm_bi0 c_78]; decide
          refine r_aload_n k_150_84 rfl ?_
          refine r_iload_n k_150_85 rfl ?_
          refine r_callv2 m_150 k_150_86 cl_8_109 m_120 (by decide) rfl rfl (Nat.le_of_ble_eq_true rfl) (Nat.le_of_ble_eq_true rfl) rfl rfl ?_
          refine s_120 hn hnc ?_
          refine r_aload_n k_150_89 rfl ?_
          refine r_get m_150 k_150_90 fl_8_7 rfl rfl ?_
          refine r_iconst k_150_93 ci_0 ?_
          refine r_ialdn (k := 0) k_150_94 rfl (Or.inl rfl) rfl (by decide) (by decide) ?_
          refine r_icmp_lt k_150_95 rfl (fun c_95 => ?_) (fun c_95 => ?_)
          · have hcr : nI (hm_tkn m nc 0 hh) < m 0 0 := c_95
            refine r_aload_n k_150_101 rfl ?_
            refine r_iload_n k_150_102 rfl ?_
            refine r_iload_n k_150_103 rfl ?_
            refine r_iload_n k_150_104 rfl ?_
            refine r_callv4 m_150 k_150_105 cl_8_193 m_153 (by decide) rfl rfl (Nat.le_of_ble_eq_true rfl) (Nat.le_of_ble_eq_true rfl) rfl rfl ?_
            refine s_153_0 hn hnc hc hh4 he ?_
            refine r_if_eq k_150_108 rfl (fun c_108 => ?_) (fun c_108 => ?_)
            · have hq : ¬ hm_plm m nc c hh 0 = true := by rw [hm_bi0 c_108]; decide
              refine r_iload_n k_150_114 rfl ?_
              refine r_iconst k_150_115 ci_1 ?_
              refine r_icmp_eq k_150_116 rfl (fun z => absurd z (by decide)) (fun c_116 => ?_)
              refine r_iload_n k_150_119 rfl ?_
              refine r_iconst k_150_120 ci_3 ?_
              refine r_icmp_ne k_150_121 rfl (fun c_121 => ?_) (fun z => absurd (by decide) z)
              refine r_iconst k_150_174 ci_0 ?_
              exact hm_T.ret m_150 k_150_175 rfl (by unfold hm_may at hQ; rw [if_pos c_6, if_pos hx, if_neg hw, if_neg (show ¬ hm_oe m c 0 = true from (fun z => Bool.noConfusion (show false = true from z))), if_neg hz, if_pos hcr, if_neg hq, if_neg (by rintro ⟨z1, z2⟩; omega)] at hQ; have e := hQ m; rw [hm_x_i] at e; exact e)
            · have hq : hm_plm m nc c hh 0 = true := hm_bi1 c_108
              refine r_bipush k_150_111 cb_11 ?_
              exact hm_T.ret m_150 k_150_113 rfl (by unfold hm_may at hQ; rw [if_pos c_6, if_pos hx, if_neg hw, if_neg (show ¬ hm_oe m c 0 = true from (fun z => Bool.noConfusion (show false = true from z))), if_neg hz, if_pos hcr, if_pos hq] at hQ; have e := hQ m; rw [hm_x_i] at e; exact e)
          · have hcr : ¬ nI (hm_tkn m nc 0 hh) < m 0 0 := c_95
            refine r_bipush k_150_98 cb_10 ?_
            exact hm_T.ret m_150 k_150_100 rfl (by unfold hm_may at hQ; rw [if_pos c_6, if_pos hx, if_neg hw, if_neg (show ¬ hm_oe m c 0 = true from (fun z => Bool.noConfusion (show false = true from z))), if_neg hz, if_neg hcr] at hQ; have e := hQ m; rw [hm_x_i] at e; exact e)
        · have hz : hm_bz m c (nI hh) = true := hm_bi1 c_78
          refine r_bipush k_150_81 cb_9 ?_
          exact hm_T.ret m_150 k_150_83 rfl (by unfold hm_may at hQ; rw [if_pos c_6, if_pos hx, if_neg hw, if_neg (show ¬ hm_oe m c 0 = true from (fun z => Bool.noConfusion (show false = true from z))), if_pos hz] at hQ; have e := hQ m; rw [hm_x_i] at e; exact e)
      · have hw : hm_wl m c 0 (nI hh) = true := by rw [hwe]; exact hm_bi1 c_35
        refine r_bipush k_150_38 cb_7 ?_
        exact hm_T.ret m_150 k_150_40 rfl (by unfold hm_may at hQ; rw [if_pos c_6, if_pos hx, if_pos hw] at hQ; have e := hQ m; rw [hm_x_i] at e; exact e)
    · have hx : ¬ hm_hn m c 0 (nI hh) ≤ 0 := by rw [hxe]; exact c_22
      refine r_iload k_150_25 rfl ?_
      exact hm_T.ret m_150 k_150_27 rfl (by unfold hm_may at hQ; rw [if_pos c_6, if_neg hx, hxe] at hQ; have e := hQ m; rw [hm_x_i] at e; exact e)
  · refine r_iconst k_150_9 ci_1 ?_
    exact hm_T.ret m_150 k_150_10 rfl (by unfold hm_may at hQ; rw [if_neg c_6] at hQ; have e := hQ m; rw [hm_x_i] at e; exact e)
set_option maxRecDepth 20000 in
theorem s_150_1 {d n s : Nat} {m : hm_M} {h : Nat → Option va_E} {Q : Option Value → hm_H → Prop} {nc : Nat} (hn : m 9 0 = nI nc) (hnc : nc ≤ 16) {c hh : Nat} (hc : c < nc) (hh4 : hh < 400) (hF : ∀ c, c < nc → ∃ f, m 10 c = nI f ∧ f < 4) {nb : Nat} {LL : Nat → List Int32} (hnb : nb ≤ 12) (hb : m 2 0 = nI nb) (hLn : ∀ c, (LL c).length ≤ 924) (hLL : ∀ c, c < nc → ¬ m 12 c ≤ 0 → ∃ mn, m 12 c = nI mn ∧ mn ≤ 6 ∧ hm_LL (m 3) (m 13 c) mn nb (LL c)) (hT : nI (hm_tkn m nc 0 hh) < m 0 0 → (hm_tl (hm_hr m c 1 hh) (nI hh) (4 * nc)).length ≤ 8) (he : (hm_re (m 15 (4 * c + 2)) (m 15 (4 * c + 3))) < nI 400) (hH : m 15 (4 * c + 1) < 0 → m 15 (4 * c + 1) = -1) (hQ : ∀ S2, Q (some (.int (hm_may m LL nc c 1 hh))) (hm_hM (hm_x m S2) h n s)) : hm_T (d + 4) 150 0 [.ref 61, .int (nI c), .int (nI 1), .int (nI hh), .retAddr 0, .retAddr 0] [] (hm_hM m h n s) Q := by
  obtain ⟨f, hf, hf4⟩ := hF c hc
  have hxe : hm_hn m c 1 (nI hh) = hm_hin m f c 1 (nI hh) := by unfold hm_hn; rw [hf, nI_clamp (by omega)]
  have hwe : hm_wl m c 1 (nI hh) = hm_any (fun j => decide (¬ m 15 (4 * c + j) < 0) && (decide (¬ (nI hh) < m 15 (4 * c + j)) && decide (m 4 (20 * f + 5 * j + 4) >>> (nI 1 &&& 31) &&& nI 1 = nI 1))) 4 := by unfold hm_wl; rw [hf, nI_clamp (by omega)]
  refine r_aload_n k_150_0 rfl ?_
  refine r_iload_n k_150_1 rfl ?_
  refine r_iload_n k_150_2 rfl ?_
  refine r_callv3 m_150 k_150_3 cl_8_92 m_122 (by decide) rfl rfl (Nat.le_of_ble_eq_true rfl) (Nat.le_of_ble_eq_true rfl) rfl rfl ?_
  refine s_122 (c := c) (t := 1) (by omega) (by decide) ?_
  refine r_if_lt k_150_6 rfl (fun c_6 => ?_) (fun c_6 => ?_)
  · refine r_aload_n k_150_11 rfl ?_
    refine r_iload_n k_150_12 rfl ?_
    refine r_iload_n k_150_13 rfl ?_
    refine r_iload_n k_150_14 rfl ?_
    refine r_callv4 m_150 k_150_15 cl_8_183 m_137 (by decide) rfl rfl (Nat.le_of_ble_eq_true rfl) (Nat.le_of_ble_eq_true rfl) rfl rfl ?_
    refine s_137 (c := c) (t := 1) (f := f) (by omega) (by decide) hf hf4 ?_
    refine r_istore k_150_18 rfl ?_
    refine r_iload k_150_20 rfl ?_
    refine r_if_le k_150_22 rfl (fun c_22 => ?_) (fun c_22 => ?_)
    · have hx : hm_hn m c 1 (nI hh) ≤ 0 := by rw [hxe]; exact c_22
      refine r_aload_n k_150_28 rfl ?_
      refine r_iload_n k_150_29 rfl ?_
      refine r_iload_n k_150_30 rfl ?_
      refine r_iload_n k_150_31 rfl ?_
      refine r_callv4 m_150 k_150_32 cl_8_186 m_151 (by decide) rfl rfl (Nat.le_of_ble_eq_true rfl) (Nat.le_of_ble_eq_true rfl) rfl rfl ?_
      refine s_151 (c := c) (t := 1) (f := f) (by omega) (by decide) hf hf4 ?_
      refine r_if_eq k_150_35 rfl (fun c_35 => ?_) (fun c_35 => ?_)
      · have hw : ¬ hm_wl m c 1 (nI hh) = true := by rw [hwe, hm_bi0 c_35]; decide
        refine r_iload_n k_150_41 rfl ?_
        refine r_iconst k_150_42 ci_2 ?_
        refine r_icmp_ne k_150_43 rfl (fun c_43 => ?_) (fun z => absurd (by decide) z)
        refine r_iload_n k_150_55 rfl ?_
        refine r_iconst k_150_56 ci_3 ?_
        refine r_icmp_ne k_150_57 rfl (fun c_57 => ?_) (fun z => absurd (by decide) z)
        refine r_aload_n k_150_72 rfl ?_
        refine r_iload_n k_150_73 rfl ?_
        refine r_iload_n k_150_74 rfl ?_
        refine r_callv3 m_150 k_150_75 cl_8_189 m_152 (by decide) rfl rfl (Nat.le_of_ble_eq_true rfl) (Nat.le_of_ble_eq_true rfl) rfl rfl ?_
        refine s_152 (c := c) (by omega) ?_
        refine r_if_eq k_150_78 rfl (fun c_78 => ?_) (fun c_78 => ?_)
        · have hz : ¬ hm_bz m c (nI hh) = true := by rw [show hm_bz m c (nI hh) = false from hm_bi0 c_78]; decide
          refine r_aload_n k_150_84 rfl ?_
          refine r_iload_n k_150_85 rfl ?_
          refine r_callv2 m_150 k_150_86 cl_8_109 m_120 (by decide) rfl rfl (Nat.le_of_ble_eq_true rfl) (Nat.le_of_ble_eq_true rfl) rfl rfl ?_
          refine s_120 hn hnc ?_
          refine r_aload_n k_150_89 rfl ?_
          refine r_get m_150 k_150_90 fl_8_7 rfl rfl ?_
          refine r_iconst k_150_93 ci_0 ?_
          refine r_ialdn (k := 0) k_150_94 rfl (Or.inl rfl) rfl (by decide) (by decide) ?_
          refine r_icmp_lt k_150_95 rfl (fun c_95 => ?_) (fun c_95 => ?_)
          · have hcr : nI (hm_tkn m nc 0 hh) < m 0 0 := c_95
            refine r_aload_n k_150_101 rfl ?_
            refine r_iload_n k_150_102 rfl ?_
            refine r_iload_n k_150_103 rfl ?_
            refine r_iload_n k_150_104 rfl ?_
            refine r_callv4 m_150 k_150_105 cl_8_193 m_153 (by decide) rfl rfl (Nat.le_of_ble_eq_true rfl) (Nat.le_of_ble_eq_true rfl) rfl rfl ?_
            refine s_153_1 hn hnc ?_
            refine r_if_eq k_150_108 rfl (fun c_108 => ?_) (fun c_108 => ?_)
            · have hq : ¬ hm_plm m nc c hh 1 = true := by rw [hm_bi0 c_108]; decide
              refine r_iload_n k_150_114 rfl ?_
              refine r_iconst k_150_115 ci_1 ?_
              refine r_icmp_eq k_150_116 rfl (fun c_116 => ?_) (fun z => absurd rfl z)
              refine r_aload_n k_150_124 rfl ?_
              refine r_get m_150 k_150_125 fl_8_38 rfl rfl ?_
              refine r_iload_n k_150_128 rfl ?_
              refine r_ialdn (k := c) k_150_129 rfl (Or.inl rfl) rfl (by omega) (by decide) ?_
              refine r_if_le k_150_130 rfl (fun c_130 => ?_) (fun c_130 => ?_)
              · refine r_iconst k_150_174 ci_0 ?_
                exact hm_T.ret m_150 k_150_175 rfl (by unfold hm_may at hQ; rw [if_pos c_6, if_pos hx, if_neg hw, if_neg (show ¬ hm_oe m c 1 = true from (fun z => Bool.noConfusion (show false = true from z))), if_neg hz, if_pos hcr, if_neg hq, if_neg (by rintro ⟨z1, z2⟩; exact z2 c_130)] at hQ; have e := hQ m; rw [hm_x_i] at e; exact e)
              · refine r_aload_n k_150_133 rfl ?_
                refine r_get m_150 k_150_134 fl_8_47 rfl rfl ?_
                refine r_iconst k_150_137 ci_4 ?_
                refine r_iload_n k_150_138 rfl ?_
                refine r_imul k_150_139 ?_
                refine r_iload_n k_150_140 rfl ?_
                refine r_iadd k_150_141 ?_
                refine r_iload_n k_150_142 rfl ?_
                refine r_iastn (k := 4 * c + 1) k_150_143 rfl rfl (by rw [nI_mul, nI_add]) (by omega) (by decide) (wM_15 _) ?_
                refine r_aload_n k_150_144 rfl ?_
                refine r_iload_n k_150_145 rfl ?_
                refine r_callv2 m_150 k_150_146 cl_8_196 m_154 (by decide) rfl rfl (Nat.le_of_ble_eq_true rfl) (Nat.le_of_ble_eq_true rfl) rfl rfl ?_
                rw [show hm_hM (hm_uM m 15 (upd (m 15) (4 * c + 1) (nI hh))) h n s = hm_hM (hm_x (hm_hr m c 1 hh) (hm_hr m c 1 hh)) h n s by rw [hm_x_i]; rfl]
                refine s_154 (m := (hm_hr m c 1 hh)) hn hnc hnb hb hLn hLL (hT hcr) (fun S2 _ => ?_)
                have hres : hm_uM (hm_hr m c 1 hh) 15 (upd ((hm_hr m c 1 hh) 15) (4 * c + 1) (-1)) = m := hm_rst (hH c_6)
                have fin0 : ¬ (if (hm_fs (hm_hr m c 1 hh) LL (nI hh) nc).isSome = true then nI 1 else nI 0) = 0 → Q (some (.int (nI 0))) (hm_hM (hm_x (hm_uM (hm_hr m c 1 hh) 15 (upd ((hm_hr m c 1 hh) 15) (4 * c + 1) (-1))) S2) h n s) := fun z => by rw [hres]; have e := hQ S2; unfold hm_may at e; rw [if_pos c_6, if_pos hx, if_neg hw, if_neg (show ¬ hm_oe m c 1 = true from (fun z => Bool.noConfusion (show false = true from z))), if_neg hz, if_pos hcr, if_neg hq, if_pos ⟨by decide, c_130⟩, if_pos (by by_cases hz2 : (hm_fs (hm_hr m c 1 hh) LL (nI hh) nc).isSome = true; exact hz2; rw [if_neg hz2] at z; exact absurd rfl z)] at e; exact e
                have fin12 : (if (hm_fs (hm_hr m c 1 hh) LL (nI hh) nc).isSome = true then nI 1 else nI 0) = 0 → Q (some (.int (nI 12))) (hm_hM (hm_x (hm_uM (hm_hr m c 1 hh) 15 (upd ((hm_hr m c 1 hh) 15) (4 * c + 1) (-1))) S2) h n s) := fun z => by rw [hres]; have e := hQ S2; unfold hm_may at e; rw [if_pos c_6, if_pos hx, if_neg hw, if_neg (show ¬ hm_oe m c 1 = true from (fun z => Bool.noConfusion (show false = true from z))), if_neg hz, if_pos hcr, if_neg hq, if_pos ⟨by decide, c_130⟩, if_neg (by intro hz2; rw [if_pos hz2] at z; exact absurd z (by decide))] at e; exact e
                refine r_istore k_150_149 rfl ?_
                refine r_aload_n k_150_151 rfl ?_
                refine r_get m_150 k_150_152 fl_8_47 rfl rfl ?_
                refine r_iconst k_150_155 ci_4 ?_
                refine r_iload_n k_150_156 rfl ?_
                refine r_imul k_150_157 ?_
                refine r_iload_n k_150_158 rfl ?_
                refine r_iadd k_150_159 ?_
                refine r_iconst k_150_160 ci_m1 ?_
                refine r_iastn (k := 4 * c + 1) k_150_161 rfl rfl (by rw [nI_mul, nI_add]) (by omega) (by decide) (wX_15 _) ?_
                refine r_iload k_150_162 rfl ?_
                refine r_if_eq k_150_164 rfl (fun c_164 => ?_) (fun c_164 => ?_)
                · refine r_bipush k_150_171 cb_12 ?_
                  exact hm_T.ret m_150 k_150_173 rfl (fin12 c_164)
                · refine r_iconst k_150_167 ci_0 ?_
                  refine r_goto k_150_168 rfl ?_
                  exact hm_T.ret m_150 k_150_173 rfl (fin0 c_164)
            · have hq : hm_plm m nc c hh 1 = true := hm_bi1 c_108
              refine r_bipush k_150_111 cb_11 ?_
              exact hm_T.ret m_150 k_150_113 rfl (by unfold hm_may at hQ; rw [if_pos c_6, if_pos hx, if_neg hw, if_neg (show ¬ hm_oe m c 1 = true from (fun z => Bool.noConfusion (show false = true from z))), if_neg hz, if_pos hcr, if_pos hq] at hQ; have e := hQ m; rw [hm_x_i] at e; exact e)
          · have hcr : ¬ nI (hm_tkn m nc 0 hh) < m 0 0 := c_95
            refine r_bipush k_150_98 cb_10 ?_
            exact hm_T.ret m_150 k_150_100 rfl (by unfold hm_may at hQ; rw [if_pos c_6, if_pos hx, if_neg hw, if_neg (show ¬ hm_oe m c 1 = true from (fun z => Bool.noConfusion (show false = true from z))), if_neg hz, if_neg hcr] at hQ; have e := hQ m; rw [hm_x_i] at e; exact e)
        · have hz : hm_bz m c (nI hh) = true := hm_bi1 c_78
          refine r_bipush k_150_81 cb_9 ?_
          exact hm_T.ret m_150 k_150_83 rfl (by unfold hm_may at hQ; rw [if_pos c_6, if_pos hx, if_neg hw, if_neg (show ¬ hm_oe m c 1 = true from (fun z => Bool.noConfusion (show false = true from z))), if_pos hz] at hQ; have e := hQ m; rw [hm_x_i] at e; exact e)
      · have hw : hm_wl m c 1 (nI hh) = true := by rw [hwe]; exact hm_bi1 c_35
        refine r_bipush k_150_38 cb_7 ?_
        exact hm_T.ret m_150 k_150_40 rfl (by unfold hm_may at hQ; rw [if_pos c_6, if_pos hx, if_pos hw] at hQ; have e := hQ m; rw [hm_x_i] at e; exact e)
    · have hx : ¬ hm_hn m c 1 (nI hh) ≤ 0 := by rw [hxe]; exact c_22
      refine r_iload k_150_25 rfl ?_
      exact hm_T.ret m_150 k_150_27 rfl (by unfold hm_may at hQ; rw [if_pos c_6, if_neg hx, hxe] at hQ; have e := hQ m; rw [hm_x_i] at e; exact e)
  · refine r_iconst k_150_9 ci_1 ?_
    exact hm_T.ret m_150 k_150_10 rfl (by unfold hm_may at hQ; rw [if_neg c_6] at hQ; have e := hQ m; rw [hm_x_i] at e; exact e)
set_option maxRecDepth 20000 in
theorem s_150_2 {d n s : Nat} {m : hm_M} {h : Nat → Option va_E} {Q : Option Value → hm_H → Prop} {nc : Nat} (hn : m 9 0 = nI nc) (hnc : nc ≤ 16) {c hh : Nat} (hc : c < nc) (hh4 : hh < 400) (hF : ∀ c, c < nc → ∃ f, m 10 c = nI f ∧ f < 4) {nb : Nat} {LL : Nat → List Int32} (hnb : nb ≤ 12) (hb : m 2 0 = nI nb) (hLn : ∀ c, (LL c).length ≤ 924) (hLL : ∀ c, c < nc → ¬ m 12 c ≤ 0 → ∃ mn, m 12 c = nI mn ∧ mn ≤ 6 ∧ hm_LL (m 3) (m 13 c) mn nb (LL c)) (hT : nI (hm_tkn m nc 0 hh) < m 0 0 → (hm_tl (hm_hr m c 2 hh) (nI hh) (4 * nc)).length ≤ 8) (he : (hm_re (m 15 (4 * c + 2)) (m 15 (4 * c + 3))) < nI 400) (hH : m 15 (4 * c + 2) < 0 → m 15 (4 * c + 2) = -1) (hQ : ∀ S2, Q (some (.int (hm_may m LL nc c 2 hh))) (hm_hM (hm_x m S2) h n s)) : hm_T (d + 4) 150 0 [.ref 61, .int (nI c), .int (nI 2), .int (nI hh), .retAddr 0, .retAddr 0] [] (hm_hM m h n s) Q := by
  obtain ⟨f, hf, hf4⟩ := hF c hc
  have hxe : hm_hn m c 2 (nI hh) = hm_hin m f c 2 (nI hh) := by unfold hm_hn; rw [hf, nI_clamp (by omega)]
  have hwe : hm_wl m c 2 (nI hh) = hm_any (fun j => decide (¬ m 15 (4 * c + j) < 0) && (decide (¬ (nI hh) < m 15 (4 * c + j)) && decide (m 4 (20 * f + 5 * j + 4) >>> (nI 2 &&& 31) &&& nI 1 = nI 1))) 4 := by unfold hm_wl; rw [hf, nI_clamp (by omega)]
  refine r_aload_n k_150_0 rfl ?_
  refine r_iload_n k_150_1 rfl ?_
  refine r_iload_n k_150_2 rfl ?_
  refine r_callv3 m_150 k_150_3 cl_8_92 m_122 (by decide) rfl rfl (Nat.le_of_ble_eq_true rfl) (Nat.le_of_ble_eq_true rfl) rfl rfl ?_
  refine s_122 (c := c) (t := 2) (by omega) (by decide) ?_
  refine r_if_lt k_150_6 rfl (fun c_6 => ?_) (fun c_6 => ?_)
  · refine r_aload_n k_150_11 rfl ?_
    refine r_iload_n k_150_12 rfl ?_
    refine r_iload_n k_150_13 rfl ?_
    refine r_iload_n k_150_14 rfl ?_
    refine r_callv4 m_150 k_150_15 cl_8_183 m_137 (by decide) rfl rfl (Nat.le_of_ble_eq_true rfl) (Nat.le_of_ble_eq_true rfl) rfl rfl ?_
    refine s_137 (c := c) (t := 2) (f := f) (by omega) (by decide) hf hf4 ?_
    refine r_istore k_150_18 rfl ?_
    refine r_iload k_150_20 rfl ?_
    refine r_if_le k_150_22 rfl (fun c_22 => ?_) (fun c_22 => ?_)
    · have hx : hm_hn m c 2 (nI hh) ≤ 0 := by rw [hxe]; exact c_22
      refine r_aload_n k_150_28 rfl ?_
      refine r_iload_n k_150_29 rfl ?_
      refine r_iload_n k_150_30 rfl ?_
      refine r_iload_n k_150_31 rfl ?_
      refine r_callv4 m_150 k_150_32 cl_8_186 m_151 (by decide) rfl rfl (Nat.le_of_ble_eq_true rfl) (Nat.le_of_ble_eq_true rfl) rfl rfl ?_
      refine s_151 (c := c) (t := 2) (f := f) (by omega) (by decide) hf hf4 ?_
      refine r_if_eq k_150_35 rfl (fun c_35 => ?_) (fun c_35 => ?_)
      · have hw : ¬ hm_wl m c 2 (nI hh) = true := by rw [hwe, hm_bi0 c_35]; decide
        refine r_iload_n k_150_41 rfl ?_
        refine r_iconst k_150_42 ci_2 ?_
        refine r_icmp_ne k_150_43 rfl (fun z => absurd z (fun z => z (by decide))) (fun c_43 => ?_)
        refine r_aload_n k_150_46 rfl ?_
        refine r_iload_n k_150_47 rfl ?_
        refine r_iconst k_150_48 ci_3 ?_
        refine r_callv3 m_150 k_150_49 cl_8_92 m_122 (by decide) rfl rfl (Nat.le_of_ble_eq_true rfl) (Nat.le_of_ble_eq_true rfl) rfl rfl ?_
        refine s_122 (c := c) (t := 3) (by omega) (by decide) ?_
        refine r_if_ge k_150_52 rfl (fun c_52 => ?_) (fun c_52 => ?_)
        · refine r_bipush k_150_69 cb_8 ?_
          exact hm_T.ret m_150 k_150_71 rfl (by unfold hm_may at hQ; rw [if_pos c_6, if_pos hx, if_neg hw, if_pos (show hm_oe m c 2 = true from decide_eq_true c_52)] at hQ; have e := hQ m; rw [hm_x_i] at e; exact e)
        · refine r_iload_n k_150_55 rfl ?_
          refine r_iconst k_150_56 ci_3 ?_
          refine r_icmp_ne k_150_57 rfl (fun c_57 => ?_) (fun z => absurd (by decide) z)
          refine r_aload_n k_150_72 rfl ?_
          refine r_iload_n k_150_73 rfl ?_
          refine r_iload_n k_150_74 rfl ?_
          refine r_callv3 m_150 k_150_75 cl_8_189 m_152 (by decide) rfl rfl (Nat.le_of_ble_eq_true rfl) (Nat.le_of_ble_eq_true rfl) rfl rfl ?_
          refine s_152 (c := c) (by omega) ?_
          refine r_if_eq k_150_78 rfl (fun c_78 => ?_) (fun c_78 => ?_)
          · have hz : ¬ hm_bz m c (nI hh) = true := by rw [show hm_bz m c (nI hh) = false from hm_bi0 c_78]; decide
            refine r_aload_n k_150_84 rfl ?_
            refine r_iload_n k_150_85 rfl ?_
            refine r_callv2 m_150 k_150_86 cl_8_109 m_120 (by decide) rfl rfl (Nat.le_of_ble_eq_true rfl) (Nat.le_of_ble_eq_true rfl) rfl rfl ?_
            refine s_120 hn hnc ?_
            refine r_aload_n k_150_89 rfl ?_
            refine r_get m_150 k_150_90 fl_8_7 rfl rfl ?_
            refine r_iconst k_150_93 ci_0 ?_
            refine r_ialdn (k := 0) k_150_94 rfl (Or.inl rfl) rfl (by decide) (by decide) ?_
            refine r_icmp_lt k_150_95 rfl (fun c_95 => ?_) (fun c_95 => ?_)
            · have hcr : nI (hm_tkn m nc 0 hh) < m 0 0 := c_95
              refine r_aload_n k_150_101 rfl ?_
              refine r_iload_n k_150_102 rfl ?_
              refine r_iload_n k_150_103 rfl ?_
              refine r_iload_n k_150_104 rfl ?_
              refine r_callv4 m_150 k_150_105 cl_8_193 m_153 (by decide) rfl rfl (Nat.le_of_ble_eq_true rfl) (Nat.le_of_ble_eq_true rfl) rfl rfl ?_
              refine s_153_2 hn hnc ?_
              refine r_if_eq k_150_108 rfl (fun c_108 => ?_) (fun c_108 => ?_)
              · have hq : ¬ hm_plm m nc c hh 2 = true := by rw [hm_bi0 c_108]; decide
                refine r_iload_n k_150_114 rfl ?_
                refine r_iconst k_150_115 ci_1 ?_
                refine r_icmp_eq k_150_116 rfl (fun z => absurd z (by decide)) (fun c_116 => ?_)
                refine r_iload_n k_150_119 rfl ?_
                refine r_iconst k_150_120 ci_3 ?_
                refine r_icmp_ne k_150_121 rfl (fun c_121 => ?_) (fun z => absurd (by decide) z)
                refine r_iconst k_150_174 ci_0 ?_
                exact hm_T.ret m_150 k_150_175 rfl (by unfold hm_may at hQ; rw [if_pos c_6, if_pos hx, if_neg hw, if_neg (show ¬ hm_oe m c 2 = true by intro z; exact absurd (of_decide_eq_true z) c_52), if_neg hz, if_pos hcr, if_neg hq, if_neg (by rintro ⟨z1, z2⟩; omega)] at hQ; have e := hQ m; rw [hm_x_i] at e; exact e)
              · have hq : hm_plm m nc c hh 2 = true := hm_bi1 c_108
                refine r_bipush k_150_111 cb_11 ?_
                exact hm_T.ret m_150 k_150_113 rfl (by unfold hm_may at hQ; rw [if_pos c_6, if_pos hx, if_neg hw, if_neg (show ¬ hm_oe m c 2 = true by intro z; exact absurd (of_decide_eq_true z) c_52), if_neg hz, if_pos hcr, if_pos hq] at hQ; have e := hQ m; rw [hm_x_i] at e; exact e)
            · have hcr : ¬ nI (hm_tkn m nc 0 hh) < m 0 0 := c_95
              refine r_bipush k_150_98 cb_10 ?_
              exact hm_T.ret m_150 k_150_100 rfl (by unfold hm_may at hQ; rw [if_pos c_6, if_pos hx, if_neg hw, if_neg (show ¬ hm_oe m c 2 = true by intro z; exact absurd (of_decide_eq_true z) c_52), if_neg hz, if_neg hcr] at hQ; have e := hQ m; rw [hm_x_i] at e; exact e)
          · have hz : hm_bz m c (nI hh) = true := hm_bi1 c_78
            refine r_bipush k_150_81 cb_9 ?_
            exact hm_T.ret m_150 k_150_83 rfl (by unfold hm_may at hQ; rw [if_pos c_6, if_pos hx, if_neg hw, if_neg (show ¬ hm_oe m c 2 = true by intro z; exact absurd (of_decide_eq_true z) c_52), if_pos hz] at hQ; have e := hQ m; rw [hm_x_i] at e; exact e)
      · have hw : hm_wl m c 2 (nI hh) = true := by rw [hwe]; exact hm_bi1 c_35
        refine r_bipush k_150_38 cb_7 ?_
        exact hm_T.ret m_150 k_150_40 rfl (by unfold hm_may at hQ; rw [if_pos c_6, if_pos hx, if_pos hw] at hQ; have e := hQ m; rw [hm_x_i] at e; exact e)
    · have hx : ¬ hm_hn m c 2 (nI hh) ≤ 0 := by rw [hxe]; exact c_22
      refine r_iload k_150_25 rfl ?_
      exact hm_T.ret m_150 k_150_27 rfl (by unfold hm_may at hQ; rw [if_pos c_6, if_neg hx, hxe] at hQ; have e := hQ m; rw [hm_x_i] at e; exact e)
  · refine r_iconst k_150_9 ci_1 ?_
    exact hm_T.ret m_150 k_150_10 rfl (by unfold hm_may at hQ; rw [if_neg c_6] at hQ; have e := hQ m; rw [hm_x_i] at e; exact e)
set_option maxRecDepth 20000 in
theorem s_150_3 {d n s : Nat} {m : hm_M} {h : Nat → Option va_E} {Q : Option Value → hm_H → Prop} {nc : Nat} (hn : m 9 0 = nI nc) (hnc : nc ≤ 16) {c hh : Nat} (hc : c < nc) (hh4 : hh < 400) (hF : ∀ c, c < nc → ∃ f, m 10 c = nI f ∧ f < 4) {nb : Nat} {LL : Nat → List Int32} (hnb : nb ≤ 12) (hb : m 2 0 = nI nb) (hLn : ∀ c, (LL c).length ≤ 924) (hLL : ∀ c, c < nc → ¬ m 12 c ≤ 0 → ∃ mn, m 12 c = nI mn ∧ mn ≤ 6 ∧ hm_LL (m 3) (m 13 c) mn nb (LL c)) (hT : nI (hm_tkn m nc 0 hh) < m 0 0 → (hm_tl (hm_hr m c 3 hh) (nI hh) (4 * nc)).length ≤ 8) (he : (hm_re (m 15 (4 * c + 2)) (m 15 (4 * c + 3))) < nI 400) (hH : m 15 (4 * c + 3) < 0 → m 15 (4 * c + 3) = -1) (hQ : ∀ S2, Q (some (.int (hm_may m LL nc c 3 hh))) (hm_hM (hm_x m S2) h n s)) : hm_T (d + 4) 150 0 [.ref 61, .int (nI c), .int (nI 3), .int (nI hh), .retAddr 0, .retAddr 0] [] (hm_hM m h n s) Q := by
  obtain ⟨f, hf, hf4⟩ := hF c hc
  have hxe : hm_hn m c 3 (nI hh) = hm_hin m f c 3 (nI hh) := by unfold hm_hn; rw [hf, nI_clamp (by omega)]
  have hwe : hm_wl m c 3 (nI hh) = hm_any (fun j => decide (¬ m 15 (4 * c + j) < 0) && (decide (¬ (nI hh) < m 15 (4 * c + j)) && decide (m 4 (20 * f + 5 * j + 4) >>> (nI 3 &&& 31) &&& nI 1 = nI 1))) 4 := by unfold hm_wl; rw [hf, nI_clamp (by omega)]
  refine r_aload_n k_150_0 rfl ?_
  refine r_iload_n k_150_1 rfl ?_
  refine r_iload_n k_150_2 rfl ?_
  refine r_callv3 m_150 k_150_3 cl_8_92 m_122 (by decide) rfl rfl (Nat.le_of_ble_eq_true rfl) (Nat.le_of_ble_eq_true rfl) rfl rfl ?_
  refine s_122 (c := c) (t := 3) (by omega) (by decide) ?_
  refine r_if_lt k_150_6 rfl (fun c_6 => ?_) (fun c_6 => ?_)
  · refine r_aload_n k_150_11 rfl ?_
    refine r_iload_n k_150_12 rfl ?_
    refine r_iload_n k_150_13 rfl ?_
    refine r_iload_n k_150_14 rfl ?_
    refine r_callv4 m_150 k_150_15 cl_8_183 m_137 (by decide) rfl rfl (Nat.le_of_ble_eq_true rfl) (Nat.le_of_ble_eq_true rfl) rfl rfl ?_
    refine s_137 (c := c) (t := 3) (f := f) (by omega) (by decide) hf hf4 ?_
    refine r_istore k_150_18 rfl ?_
    refine r_iload k_150_20 rfl ?_
    refine r_if_le k_150_22 rfl (fun c_22 => ?_) (fun c_22 => ?_)
    · have hx : hm_hn m c 3 (nI hh) ≤ 0 := by rw [hxe]; exact c_22
      refine r_aload_n k_150_28 rfl ?_
      refine r_iload_n k_150_29 rfl ?_
      refine r_iload_n k_150_30 rfl ?_
      refine r_iload_n k_150_31 rfl ?_
      refine r_callv4 m_150 k_150_32 cl_8_186 m_151 (by decide) rfl rfl (Nat.le_of_ble_eq_true rfl) (Nat.le_of_ble_eq_true rfl) rfl rfl ?_
      refine s_151 (c := c) (t := 3) (f := f) (by omega) (by decide) hf hf4 ?_
      refine r_if_eq k_150_35 rfl (fun c_35 => ?_) (fun c_35 => ?_)
      · have hw : ¬ hm_wl m c 3 (nI hh) = true := by rw [hwe, hm_bi0 c_35]; decide
        refine r_iload_n k_150_41 rfl ?_
        refine r_iconst k_150_42 ci_2 ?_
        refine r_icmp_ne k_150_43 rfl (fun c_43 => ?_) (fun z => absurd (by decide) z)
        refine r_iload_n k_150_55 rfl ?_
        refine r_iconst k_150_56 ci_3 ?_
        refine r_icmp_ne k_150_57 rfl (fun z => absurd z (fun z => z (by decide))) (fun c_57 => ?_)
        refine r_aload_n k_150_60 rfl ?_
        refine r_iload_n k_150_61 rfl ?_
        refine r_iconst k_150_62 ci_2 ?_
        refine r_callv3 m_150 k_150_63 cl_8_92 m_122 (by decide) rfl rfl (Nat.le_of_ble_eq_true rfl) (Nat.le_of_ble_eq_true rfl) rfl rfl ?_
        refine s_122 (c := c) (t := 2) (by omega) (by decide) ?_
        refine r_if_lt k_150_66 rfl (fun c_66 => ?_) (fun c_66 => ?_)
        · refine r_aload_n k_150_72 rfl ?_
          refine r_iload_n k_150_73 rfl ?_
          refine r_iload_n k_150_74 rfl ?_
          refine r_callv3 m_150 k_150_75 cl_8_189 m_152 (by decide) rfl rfl (Nat.le_of_ble_eq_true rfl) (Nat.le_of_ble_eq_true rfl) rfl rfl ?_
          refine s_152 (c := c) (by omega) ?_
          refine r_if_eq k_150_78 rfl (fun c_78 => ?_) (fun c_78 => ?_)
          · have hz : ¬ hm_bz m c (nI hh) = true := by rw [show hm_bz m c (nI hh) = false from hm_bi0 c_78]; decide
            refine r_aload_n k_150_84 rfl ?_
            refine r_iload_n k_150_85 rfl ?_
            refine r_callv2 m_150 k_150_86 cl_8_109 m_120 (by decide) rfl rfl (Nat.le_of_ble_eq_true rfl) (Nat.le_of_ble_eq_true rfl) rfl rfl ?_
            refine s_120 hn hnc ?_
            refine r_aload_n k_150_89 rfl ?_
            refine r_get m_150 k_150_90 fl_8_7 rfl rfl ?_
            refine r_iconst k_150_93 ci_0 ?_
            refine r_ialdn (k := 0) k_150_94 rfl (Or.inl rfl) rfl (by decide) (by decide) ?_
            refine r_icmp_lt k_150_95 rfl (fun c_95 => ?_) (fun c_95 => ?_)
            · have hcr : nI (hm_tkn m nc 0 hh) < m 0 0 := c_95
              refine r_aload_n k_150_101 rfl ?_
              refine r_iload_n k_150_102 rfl ?_
              refine r_iload_n k_150_103 rfl ?_
              refine r_iload_n k_150_104 rfl ?_
              refine r_callv4 m_150 k_150_105 cl_8_193 m_153 (by decide) rfl rfl (Nat.le_of_ble_eq_true rfl) (Nat.le_of_ble_eq_true rfl) rfl rfl ?_
              refine s_153_3 hn hnc hc hh4 ?_
              refine r_if_eq k_150_108 rfl (fun c_108 => ?_) (fun c_108 => ?_)
              · have hq : ¬ hm_plm m nc c hh 3 = true := by rw [hm_bi0 c_108]; decide
                refine r_iload_n k_150_114 rfl ?_
                refine r_iconst k_150_115 ci_1 ?_
                refine r_icmp_eq k_150_116 rfl (fun z => absurd z (by decide)) (fun c_116 => ?_)
                refine r_iload_n k_150_119 rfl ?_
                refine r_iconst k_150_120 ci_3 ?_
                refine r_icmp_ne k_150_121 rfl (fun z => absurd z (fun z => z (by decide))) (fun c_121 => ?_)
                refine r_aload_n k_150_124 rfl ?_
                refine r_get m_150 k_150_125 fl_8_38 rfl rfl ?_
                refine r_iload_n k_150_128 rfl ?_
                refine r_ialdn (k := c) k_150_129 rfl (Or.inl rfl) rfl (by omega) (by decide) ?_
                refine r_if_le k_150_130 rfl (fun c_130 => ?_) (fun c_130 => ?_)
                · refine r_iconst k_150_174 ci_0 ?_
                  exact hm_T.ret m_150 k_150_175 rfl (by unfold hm_may at hQ; rw [if_pos c_6, if_pos hx, if_neg hw, if_neg (show ¬ hm_oe m c 3 = true by intro z; exact absurd (of_decide_eq_true z) (Int32.not_le.mpr c_66)), if_neg hz, if_pos hcr, if_neg hq, if_neg (by rintro ⟨z1, z2⟩; exact z2 c_130)] at hQ; have e := hQ m; rw [hm_x_i] at e; exact e)
                · refine r_aload_n k_150_133 rfl ?_
                  refine r_get m_150 k_150_134 fl_8_47 rfl rfl ?_
                  refine r_iconst k_150_137 ci_4 ?_
                  refine r_iload_n k_150_138 rfl ?_
                  refine r_imul k_150_139 ?_
                  refine r_iload_n k_150_140 rfl ?_
                  refine r_iadd k_150_141 ?_
                  refine r_iload_n k_150_142 rfl ?_
                  refine r_iastn (k := 4 * c + 3) k_150_143 rfl rfl (by rw [nI_mul, nI_add]) (by omega) (by decide) (wM_15 _) ?_
                  refine r_aload_n k_150_144 rfl ?_
                  refine r_iload_n k_150_145 rfl ?_
                  refine r_callv2 m_150 k_150_146 cl_8_196 m_154 (by decide) rfl rfl (Nat.le_of_ble_eq_true rfl) (Nat.le_of_ble_eq_true rfl) rfl rfl ?_
                  rw [show hm_hM (hm_uM m 15 (upd (m 15) (4 * c + 3) (nI hh))) h n s = hm_hM (hm_x (hm_hr m c 3 hh) (hm_hr m c 3 hh)) h n s by rw [hm_x_i]; rfl]
                  refine s_154 (m := (hm_hr m c 3 hh)) hn hnc hnb hb hLn hLL (hT hcr) (fun S2 _ => ?_)
                  have hres : hm_uM (hm_hr m c 3 hh) 15 (upd ((hm_hr m c 3 hh) 15) (4 * c + 3) (-1)) = m := hm_rst (hH c_6)
                  have fin0 : ¬ (if (hm_fs (hm_hr m c 3 hh) LL (nI hh) nc).isSome = true then nI 1 else nI 0) = 0 → Q (some (.int (nI 0))) (hm_hM (hm_x (hm_uM (hm_hr m c 3 hh) 15 (upd ((hm_hr m c 3 hh) 15) (4 * c + 3) (-1))) S2) h n s) := fun z => by rw [hres]; have e := hQ S2; unfold hm_may at e; rw [if_pos c_6, if_pos hx, if_neg hw, if_neg (show ¬ hm_oe m c 3 = true by intro z; exact absurd (of_decide_eq_true z) (Int32.not_le.mpr c_66)), if_neg hz, if_pos hcr, if_neg hq, if_pos ⟨by decide, c_130⟩, if_pos (by by_cases hz2 : (hm_fs (hm_hr m c 3 hh) LL (nI hh) nc).isSome = true; exact hz2; rw [if_neg hz2] at z; exact absurd rfl z)] at e; exact e
                  have fin12 : (if (hm_fs (hm_hr m c 3 hh) LL (nI hh) nc).isSome = true then nI 1 else nI 0) = 0 → Q (some (.int (nI 12))) (hm_hM (hm_x (hm_uM (hm_hr m c 3 hh) 15 (upd ((hm_hr m c 3 hh) 15) (4 * c + 3) (-1))) S2) h n s) := fun z => by rw [hres]; have e := hQ S2; unfold hm_may at e; rw [if_pos c_6, if_pos hx, if_neg hw, if_neg (show ¬ hm_oe m c 3 = true by intro z; exact absurd (of_decide_eq_true z) (Int32.not_le.mpr c_66)), if_neg hz, if_pos hcr, if_neg hq, if_pos ⟨by decide, c_130⟩, if_neg (by intro hz2; rw [if_pos hz2] at z; exact absurd z (by decide))] at e; exact e
                  refine r_istore k_150_149 rfl ?_
                  refine r_aload_n k_150_151 rfl ?_
                  refine r_get m_150 k_150_152 fl_8_47 rfl rfl ?_
                  refine r_iconst k_150_155 ci_4 ?_
                  refine r_iload_n k_150_156 rfl ?_
                  refine r_imul k_150_157 ?_
                  refine r_iload_n k_150_158 rfl ?_
                  refine r_iadd k_150_159 ?_
                  refine r_iconst k_150_160 ci_m1 ?_
                  refine r_iastn (k := 4 * c + 3) k_150_161 rfl rfl (by rw [nI_mul, nI_add]) (by omega) (by decide) (wX_15 _) ?_
                  refine r_iload k_150_162 rfl ?_
                  refine r_if_eq k_150_164 rfl (fun c_164 => ?_) (fun c_164 => ?_)
                  · refine r_bipush k_150_171 cb_12 ?_
                    exact hm_T.ret m_150 k_150_173 rfl (fin12 c_164)
                  · refine r_iconst k_150_167 ci_0 ?_
                    refine r_goto k_150_168 rfl ?_
                    exact hm_T.ret m_150 k_150_173 rfl (fin0 c_164)
              · have hq : hm_plm m nc c hh 3 = true := hm_bi1 c_108
                refine r_bipush k_150_111 cb_11 ?_
                exact hm_T.ret m_150 k_150_113 rfl (by unfold hm_may at hQ; rw [if_pos c_6, if_pos hx, if_neg hw, if_neg (show ¬ hm_oe m c 3 = true by intro z; exact absurd (of_decide_eq_true z) (Int32.not_le.mpr c_66)), if_neg hz, if_pos hcr, if_pos hq] at hQ; have e := hQ m; rw [hm_x_i] at e; exact e)
            · have hcr : ¬ nI (hm_tkn m nc 0 hh) < m 0 0 := c_95
              refine r_bipush k_150_98 cb_10 ?_
              exact hm_T.ret m_150 k_150_100 rfl (by unfold hm_may at hQ; rw [if_pos c_6, if_pos hx, if_neg hw, if_neg (show ¬ hm_oe m c 3 = true by intro z; exact absurd (of_decide_eq_true z) (Int32.not_le.mpr c_66)), if_neg hz, if_neg hcr] at hQ; have e := hQ m; rw [hm_x_i] at e; exact e)
          · have hz : hm_bz m c (nI hh) = true := hm_bi1 c_78
            refine r_bipush k_150_81 cb_9 ?_
            exact hm_T.ret m_150 k_150_83 rfl (by unfold hm_may at hQ; rw [if_pos c_6, if_pos hx, if_neg hw, if_neg (show ¬ hm_oe m c 3 = true by intro z; exact absurd (of_decide_eq_true z) (Int32.not_le.mpr c_66)), if_pos hz] at hQ; have e := hQ m; rw [hm_x_i] at e; exact e)
        · refine r_bipush k_150_69 cb_8 ?_
          exact hm_T.ret m_150 k_150_71 rfl (by unfold hm_may at hQ; rw [if_pos c_6, if_pos hx, if_neg hw, if_pos (show hm_oe m c 3 = true from decide_eq_true (Int32.not_lt.mp c_66))] at hQ; have e := hQ m; rw [hm_x_i] at e; exact e)
      · have hw : hm_wl m c 3 (nI hh) = true := by rw [hwe]; exact hm_bi1 c_35
        refine r_bipush k_150_38 cb_7 ?_
        exact hm_T.ret m_150 k_150_40 rfl (by unfold hm_may at hQ; rw [if_pos c_6, if_pos hx, if_pos hw] at hQ; have e := hQ m; rw [hm_x_i] at e; exact e)
    · have hx : ¬ hm_hn m c 3 (nI hh) ≤ 0 := by rw [hxe]; exact c_22
      refine r_iload k_150_25 rfl ?_
      exact hm_T.ret m_150 k_150_27 rfl (by unfold hm_may at hQ; rw [if_pos c_6, if_neg hx, hxe] at hQ; have e := hQ m; rw [hm_x_i] at e; exact e)
  · refine r_iconst k_150_9 ci_1 ?_
    exact hm_T.ret m_150 k_150_10 rfl (by unfold hm_may at hQ; rw [if_neg c_6] at hQ; have e := hQ m; rw [hm_x_i] at e; exact e)
