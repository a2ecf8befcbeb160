theorem hm_sl_i (S : hm_M) : hm_sl S (S 30) (S 28) = S := by
  unfold hm_sl
  rw [hm_uMs, hm_uMs]
/-- the listing of a case's sets, however it comes -/
def hm_LL (ht : Nat → Int32) (sp : Int32) (mn nb : Nat) (L : List Int32) : Prop := (nb < mn ∧ L = []) ∨ (mn ≤ nb ∧ ∃ k, hm_ls ht sp mn nb k (fun i => i) [] = some L)
theorem hm_bitv (u s : BitVec 32) (h : s &&& u = 0#32) : (u ||| s) &&& (s ^^^ 4294967295#32) = u := by
  have h4 : (4294967295#32 : BitVec 32) = BitVec.allOnes 32 := by decide
  rw [h4]
  ext i hi
  have h2 : (s &&& u)[i] = (0#32)[i] := by rw [h]
  rw [BitVec.getElem_and, BitVec.getElem_zero] at h2
  rw [BitVec.getElem_and, BitVec.getElem_or, BitVec.getElem_xor, BitVec.getElem_allOnes]
  cases hu : u[i] <;> cases hs : s[i] <;> rw [hu, hs] at h2 <;> first | rfl | exact absurd h2 (by decide)
theorem hm_nle {a b : Nat} (h : ¬ nI b ≤ nI a) (ha : a < 2 ^ 31) : a < b := by
  rcases Nat.lt_or_ge a b with h1 | h1
  · exact h1
  · exact absurd (nI_le h1 ha) h
theorem hm_bit (u S : Int32) (h : S &&& u = 0) : (u ||| S) &&& (S ^^^ (-1)) = u := by
  apply Int32.toBitVec_inj.mp
  exact hm_bitv u.toBitVec S.toBitVec (congrArg Int32.toBitVec h)
set_option maxRecDepth 20000 in
theorem s_155 {d n s : Nat} {m S : hm_M} {h : Nat → Option va_E} {Q : Option Value → hm_H → Prop} {c fr mn nb : Nat} (hc : c < 16) (hmn : mn ≤ 6) (hnb : nb ≤ 12) (hne : m 12 c = nI mn) (hb : m 2 0 = nI nb) {L2 : List Int32} (hL : hm_LL (m 3) (m 13 c) mn nb L2) (hlen : L2.length ≤ 924) (hfr : fr + 924 ≤ 7392) (hQ : ∀ R, Q (some (.int (nI L2.length))) (hm_hM (hm_x m (hm_sl S R (hm_wr (S 28) fr L2))) h n s)) : hm_T d 155 0 [.ref 61, .int (nI c), .int (nI fr), .retAddr 0, .retAddr 0, .retAddr 0, .retAddr 0, .retAddr 0, .retAddr 0, .retAddr 0, .retAddr 0] [] (hm_hM (hm_x m S) h n s) Q := by
  refine r_aload_n k_155_0 rfl ?_
  refine r_get m_155 k_155_1 fl_8_38 rfl rfl ?_
  refine r_iload_n k_155_4 rfl ?_
  refine r_ialdn (k := c) k_155_5 rfl (Or.inl rfl) rfl (by omega) (by decide) ?_
  refine r_istore_n k_155_6 rfl ?_
  refine r_iconst k_155_7 ci_0 ?_
  refine r_istore k_155_8 rfl ?_
  refine r_iload_n k_155_10 rfl ?_
  refine r_aload_n k_155_11 rfl ?_
  refine r_get m_155 k_155_12 fl_8_124 rfl rfl ?_
  rw [show hm_x m S 2 0 = nI nb from hb, show hm_x m S 12 c = nI mn from hne]
  refine r_icmp_le k_155_15 rfl (fun c_15 => ?_) (fun c_15 => ?_)
  · have hnm : mn ≤ nb := by
      rcases Nat.lt_or_ge nb mn with h1 | h1
      · exact absurd c_15 (nI_ge h1 (by omega))
      · exact h1
    rcases hL with ⟨h1, rfl⟩ | ⟨h1, k, hk⟩
    · omega
    refine r_iconst k_155_20 ci_0 ?_
    refine r_istore k_155_21 rfl ?_
    rw [show hm_x m S = hm_x m (hm_sl S (S 30) (S 28)) by rw [hm_sl_i]]
    refine l_155a hmn (fun R hR => ?_) mn 0 (S 30) (by omega) (fun i hi => absurd hi (by omega))
    refine r_iconst k_155_44 ci_1 ?_
    refine r_istore k_155_45 rfl ?_
    have e := l_155b (d := d) (S := S) (f0 := S 28) (fr := fr) (L2 := L2) hc hmn hnb hnm hb (by omega) hQ k (fun i => i) [] R (.retAddr 0) (.retAddr 0) (.retAddr 0) (.retAddr 0) (.retAddr 0) rfl rfl rfl rfl hR (fun i hi => by omega) hk
    rw [hm_wr_nil] at e
    exact e
  · have hnm : nb < mn := by
      rcases Nat.lt_or_ge nb mn with h1 | h1
      · exact h1
      · exact absurd (nI_le h1 (by omega)) c_15
    rcases hL with ⟨h1, rfl⟩ | ⟨h1, h2⟩
    rotate_left
    · omega
    refine r_iconst k_155_18 ci_0 ?_
    exact hm_T.ret m_155 k_155_19 rfl (by have e := hQ (S 30); rw [hm_wr_nil, hm_sl_i] at e; exact e)
def hm_tl (m : hm_M) (hour : Int32) : Nat → List Nat
  | 0 => []
  | j + 1 => if (j % 4 = 1 ∨ j % 4 = 3) ∧ m 15 j = hour ∧ ¬ m 12 (j / 4) ≤ 0 then hm_tl m hour j ++ [j] else hm_tl m hour j
theorem hm_tl_mono (m : hm_M) (hour : Int32) (j : Nat) : ∀ k, (hm_tl m hour j).length ≤ (hm_tl m hour (j + k)).length := by
  intro k
  induction k with
  | zero => exact Nat.le_refl _
  | succ k ih =>
    refine Nat.le_trans ih ?_
    show _ ≤ (if _ then hm_tl m hour (j + k) ++ [j + k] else hm_tl m hour (j + k)).length
    split
    · rw [List.length_append]; omega
    · exact Nat.le_refl _
def hm_ts (S : hm_M) (LL : Nat → List Int32) (Ts : List Nat) : Prop := S 25 0 = nI Ts.length ∧ ∀ i x, Ts[i]? = some x → S 26 i = nI x ∧ S 27 i = nI (LL (x / 4)).length ∧ ∀ q y, (LL (x / 4))[q]? = some y → S 28 (924 * i + q) = y
theorem hm_ts_add {S : hm_M} {LL : Nat → List Int32} {Ts : List Nat} (h : hm_ts S LL Ts) (hL : ∀ x, (LL x).length ≤ 924) (j : Nat) (R : Nat → Int32) : hm_ts (hm_uM (hm_uM (hm_sl (hm_uM S 26 (upd (S 26) Ts.length (nI j))) R (hm_wr (S 28) (924 * Ts.length) (LL (j / 4)))) 27 (upd (S 27) Ts.length (nI (LL (j / 4)).length))) 25 (fun _ => S 25 0 + nI 1)) LL (Ts ++ [j]) := by
  refine ⟨?_, ?_⟩
  · show S 25 0 + nI 1 = _
    rw [h.1, nI_add, List.length_append]
    rfl
  · intro i x hx
    show (if i = Ts.length then nI j else S 26 i) = _ ∧ (if i = Ts.length then nI (LL (j / 4)).length else S 27 i) = _ ∧ ∀ q y, (LL (x / 4))[q]? = some y → hm_wr (S 28) (924 * Ts.length) (LL (j / 4)) (924 * i + q) = y
    by_cases h1 : i = Ts.length
    · subst h1
      rw [List.getElem?_append_right (Nat.le_refl _), Nat.sub_self] at hx
      cases hx
      rw [if_pos rfl, if_pos rfl]
      refine ⟨rfl, rfl, fun q y hy => ?_⟩
      unfold hm_wr
      rw [if_pos (Nat.le_add_right _ _), Nat.add_sub_cancel_left, hy]
      rfl
    · have h2 : i < Ts.length := by
        have := (List.getElem?_eq_some_iff.mp hx).1
        rw [List.length_append] at this
        have h4 : i < Ts.length + 1 := this
        omega
      rw [List.getElem?_append_left h2] at hx
      rw [if_neg h1, if_neg h1]
      obtain ⟨a1, a2, a3⟩ := h.2 i x hx
      refine ⟨a1, a2, fun q y hy => ?_⟩
      have h5 := (List.getElem?_eq_some_iff.mp hy).1
      have h6 := hL (x / 4)
      unfold hm_wr
      rw [if_neg (by omega)]
      exact a3 q y hy
set_option maxRecDepth 20000 in
theorem l_154 {d n s : Nat} {m : hm_M} {h : Nat → Option va_E} {Q : Option Value → hm_H → Prop} {hour : Int32} {nc nb : Nat} {va : Value} {LL : Nat → List Int32} (hn : m 9 0 = nI nc) (hnc : nc ≤ 16) (hnb : nb ≤ 12) (hb : m 2 0 = nI nb) (hLn : ∀ c, (LL c).length ≤ 924) (hLL : ∀ c, c < nc → ¬ m 12 c ≤ 0 → ∃ mn, m 12 c = nI mn ∧ mn ≤ 6 ∧ hm_LL (m 3) (m 13 c) mn nb (LL c)) (hT : (hm_tl m hour (4 * nc)).length ≤ 8) (hK : ∀ S, hm_ts S LL (hm_tl m hour (4 * nc)) → hm_T (d + 1) 154 113 [.ref 61, .int hour, .int (nI (4 * nc)), va] [] (hm_hM (hm_x m S) h n s) Q) : ∀ (k j : Nat) (S : hm_M), j + k = 4 * nc → hm_ts S LL (hm_tl m hour j) → hm_T (d + 1) 154 7 [.ref 61, .int hour, .int (nI j), va] [] (hm_hM (hm_x m S) h n s) Q := by
  intro k
  induction k with
  | zero =>
    intro j S hj hS
    have hj2 : j = 4 * nc := by omega
    subst hj2
    refine r_iload_n k_154_7 rfl ?_
    refine r_iconst k_154_8 ci_4 ?_
    refine r_aload_n k_154_9 rfl ?_
    refine r_get m_154 k_154_10 fl_8_81 rfl rfl ?_
    rw [show hm_x m S 9 0 = nI nc from hn]
    refine r_imul k_154_13 ?_
    rw [nI_mul]
    refine r_icmp_ge k_154_14 rfl (fun c_14 => ?_) (fun z => absurd (nI_le (Nat.le_refl _) (by omega)) z)
    exact hK S hS
  | succ k ih =>
    intro j S hj hS
    refine r_iload_n k_154_7 rfl ?_
    refine r_iconst k_154_8 ci_4 ?_
    refine r_aload_n k_154_9 rfl ?_
    refine r_get m_154 k_154_10 fl_8_81 rfl rfl ?_
    rw [show hm_x m S 9 0 = nI nc from hn]
    refine r_imul k_154_13 ?_
    rw [nI_mul]
    refine r_icmp_ge k_154_14 rfl (fun z => absurd z (nI_ge (show j < 4 * nc by omega) (by omega))) (fun c_14 => ?_)
    refine r_iload_n k_154_17 rfl ?_
    refine r_iconst k_154_18 ci_4 ?_
    refine r_irem k_154_19 (by decide) ?_
    rw [nI_rem j 4 (by omega) (by decide) (by decide)]
    refine r_iconst k_154_20 ci_1 ?_
    refine r_icmp_eq k_154_21 rfl (fun c_21 => ?_) (fun c_21 => ?_)
    · refine r_aload_n k_154_31 rfl ?_
      refine r_get m_154 k_154_32 fl_8_47 rfl rfl ?_
      refine r_iload_n k_154_35 rfl ?_
      refine r_ialdn (k := j) k_154_36 rfl (Or.inl rfl) rfl (by omega) (by decide) ?_
      refine r_iload_n k_154_37 rfl ?_
      refine r_icmp_ne k_154_38 rfl (fun c_38 => ?_) (fun c_38 => ?_)
      · refine r_iincn k_154_107 rfl (nI_inc j) rfl ?_
        refine r_goto k_154_110 rfl ?_
        refine ih (j + 1) S (by omega) ?_
        rw [show hm_tl m hour (j + 1) = hm_tl m hour j from if_neg (by rintro ⟨z1, z2, z3⟩; exact c_38 z2)]
        exact hS
      · have c_38 := Decidable.of_not_not c_38
        refine r_aload_n k_154_41 rfl ?_
        refine r_get m_154 k_154_42 fl_8_38 rfl rfl ?_
        refine r_iload_n k_154_45 rfl ?_
        refine r_iconst k_154_46 ci_4 ?_
        refine r_idiv k_154_47 (by decide) ?_
        rw [nI_div j 4 (by omega) (by decide) (by decide)]
        refine r_ialdn (k := j / 4) k_154_48 rfl (Or.inl rfl) rfl (by omega) (by decide) ?_
        refine r_if_le k_154_49 rfl (fun c_49 => ?_) (fun c_49 => ?_)
        · refine r_iincn k_154_107 rfl (nI_inc j) rfl ?_
          refine r_goto k_154_110 rfl ?_
          refine ih (j + 1) S (by omega) ?_
          rw [show hm_tl m hour (j + 1) = hm_tl m hour j from if_neg (by rintro ⟨z1, z2, z3⟩; exact z3 c_49)]
          exact hS
        · obtain ⟨mn, hmnE, hmn, hmL⟩ := hLL (j / 4) (by omega) c_49
          have ht8 : (hm_tl m hour j).length < 8 := by
            have e1 := hm_tl_mono m hour (j + 1) k
            rw [show j + 1 + k = 4 * nc by omega, show hm_tl m hour (j + 1) = hm_tl m hour j ++ [j] from if_pos ⟨Or.inl (hm_nIinj c_21 (by omega) (by omega)), c_38, c_49⟩, List.length_append] at e1
            have e2 : [j].length = 1 := rfl
            omega
          refine r_aload_n k_154_52 rfl ?_
          refine r_get m_154 k_154_53 fl_8_199 rfl rfl ?_
          rw [show hm_x m S 25 0 = nI (hm_tl m hour j).length from hS.1]
          refine r_bipush k_154_56 cb_8 ?_
          refine r_icmp_ne k_154_58 rfl (fun c_58 => ?_) (fun z => absurd (fun z => absurd (hm_nIinj z (by omega) (by omega)) (by omega)) z)
          refine r_aload_n k_154_63 rfl ?_
          refine r_get m_154 k_154_64 fl_8_66 rfl rfl ?_
          refine r_aload_n k_154_67 rfl ?_
          refine r_get m_154 k_154_68 fl_8_199 rfl rfl ?_
          rw [show hm_x m S 25 0 = nI (hm_tl m hour j).length from hS.1]
          refine r_iload_n k_154_71 rfl ?_
          refine r_iastn (k := (hm_tl m hour j).length) k_154_72 rfl rfl rfl (by omega) (by decide) (wX_26 _) ?_
          refine r_aload_n k_154_73 rfl ?_
          refine r_get m_154 k_154_74 fl_8_69 rfl rfl ?_
          refine r_aload_n k_154_77 rfl ?_
          refine r_get m_154 k_154_78 fl_8_199 rfl rfl ?_
          rw [show hm_x m (hm_uM S 26 (upd (hm_x m S 26) (hm_tl m hour j).length (nI j))) 25 0 = nI (hm_tl m hour j).length from hS.1]
          refine r_aload_n k_154_81 rfl ?_
          refine r_iload_n k_154_82 rfl ?_
          refine r_iconst k_154_83 ci_4 ?_
          refine r_idiv k_154_84 (by decide) ?_
          rw [nI_div j 4 (by omega) (by decide) (by decide)]
          refine r_sipush k_154_85 cs_924 ?_
          refine r_aload_n k_154_88 rfl ?_
          refine r_get m_154 k_154_89 fl_8_199 rfl rfl ?_
          rw [show hm_x m (hm_uM S 26 (upd (hm_x m S 26) (hm_tl m hour j).length (nI j))) 25 0 = nI (hm_tl m hour j).length from hS.1]
          refine r_imul k_154_92 ?_
          rw [nI_mul]
          refine r_callv3 m_154 k_154_93 cl_8_202 m_155 (by decide) rfl rfl (Nat.le_of_ble_eq_true rfl) (Nat.le_of_ble_eq_true rfl) rfl rfl ?_
          refine s_155 (c := j / 4) (fr := 924 * (hm_tl m hour j).length) (L2 := LL (j / 4)) (mn := mn) (nb := nb) (by omega) hmn hnb hmnE hb hmL (hLn _) (by omega) (fun R => ?_)
          refine r_iastn (k := (hm_tl m hour j).length) k_154_96 rfl rfl rfl (by omega) (by decide) (wX_27 _) ?_
          refine r_aload_n k_154_97 rfl ?_
          refine r_dup k_154_98 rfl ?_
          refine r_get m_154 k_154_99 fl_8_199 rfl rfl ?_
          refine r_iconst k_154_102 ci_1 ?_
          refine r_iadd k_154_103 ?_
          refine r_put m_154 k_154_104 fl_8_199 rfl (Nat.le_of_ble_eq_true rfl) rfl rfl (wX_25 _) ?_
          refine r_iincn k_154_107 rfl (nI_inc j) rfl ?_
          refine r_goto k_154_110 rfl ?_
          have hS2 := hm_ts_add hS hLn j R
          rw [show hm_tl m hour j ++ [j] = hm_tl m hour (j + 1) from (if_pos ⟨Or.inl (hm_nIinj c_21 (by omega) (by omega)), c_38, c_49⟩).symm] at hS2
          exact ih (j + 1) _ (by omega) hS2
    · refine r_iload_n k_154_24 rfl ?_
      refine r_iconst k_154_25 ci_4 ?_
      refine r_irem k_154_26 (by decide) ?_
      rw [nI_rem j 4 (by omega) (by decide) (by decide)]
      refine r_iconst k_154_27 ci_3 ?_
      refine r_icmp_ne k_154_28 rfl (fun c_28 => ?_) (fun c_28 => ?_)
      · refine r_iincn k_154_107 rfl (nI_inc j) rfl ?_
        refine r_goto k_154_110 rfl ?_
        refine ih (j + 1) S (by omega) ?_
        rw [show hm_tl m hour (j + 1) = hm_tl m hour j from if_neg (by rintro ⟨z1, z2, z3⟩; exact z1.elim (fun z => c_21 (by rw [z])) (fun z => c_28 (by rw [z])))]
        exact hS
      · have c_28 := Decidable.of_not_not c_28
        refine r_aload_n k_154_31 rfl ?_
        refine r_get m_154 k_154_32 fl_8_47 rfl rfl ?_
        refine r_iload_n k_154_35 rfl ?_
        refine r_ialdn (k := j) k_154_36 rfl (Or.inl rfl) rfl (by omega) (by decide) ?_
        refine r_iload_n k_154_37 rfl ?_
        refine r_icmp_ne k_154_38 rfl (fun c_38 => ?_) (fun c_38 => ?_)
        · refine r_iincn k_154_107 rfl (nI_inc j) rfl ?_
          refine r_goto k_154_110 rfl ?_
          refine ih (j + 1) S (by omega) ?_
          rw [show hm_tl m hour (j + 1) = hm_tl m hour j from if_neg (by rintro ⟨z1, z2, z3⟩; exact c_38 z2)]
          exact hS
        · have c_38 := Decidable.of_not_not c_38
          refine r_aload_n k_154_41 rfl ?_
          refine r_get m_154 k_154_42 fl_8_38 rfl rfl ?_
          refine r_iload_n k_154_45 rfl ?_
          refine r_iconst k_154_46 ci_4 ?_
          refine r_idiv k_154_47 (by decide) ?_
          rw [nI_div j 4 (by omega) (by decide) (by decide)]
          refine r_ialdn (k := j / 4) k_154_48 rfl (Or.inl rfl) rfl (by omega) (by decide) ?_
          refine r_if_le k_154_49 rfl (fun c_49 => ?_) (fun c_49 => ?_)
          · refine r_iincn k_154_107 rfl (nI_inc j) rfl ?_
            refine r_goto k_154_110 rfl ?_
            refine ih (j + 1) S (by omega) ?_
            rw [show hm_tl m hour (j + 1) = hm_tl m hour j from if_neg (by rintro ⟨z1, z2, z3⟩; exact z3 c_49)]
            exact hS
          · obtain ⟨mn, hmnE, hmn, hmL⟩ := hLL (j / 4) (by omega) c_49
            have ht8 : (hm_tl m hour j).length < 8 := by
              have e1 := hm_tl_mono m hour (j + 1) k
              rw [show j + 1 + k = 4 * nc by omega, show hm_tl m hour (j + 1) = hm_tl m hour j ++ [j] from if_pos ⟨Or.inr (hm_nIinj c_28 (by omega) (by omega)), c_38, c_49⟩, List.length_append] at e1
              have e2 : [j].length = 1 := rfl
              omega
            refine r_aload_n k_154_52 rfl ?_
            refine r_get m_154 k_154_53 fl_8_199 rfl rfl ?_
            rw [show hm_x m S 25 0 = nI (hm_tl m hour j).length from hS.1]
            refine r_bipush k_154_56 cb_8 ?_
            refine r_icmp_ne k_154_58 rfl (fun c_58 => ?_) (fun z => absurd (fun z => absurd (hm_nIinj z (by omega) (by omega)) (by omega)) z)
            refine r_aload_n k_154_63 rfl ?_
            refine r_get m_154 k_154_64 fl_8_66 rfl rfl ?_
            refine r_aload_n k_154_67 rfl ?_
            refine r_get m_154 k_154_68 fl_8_199 rfl rfl ?_
            rw [show hm_x m S 25 0 = nI (hm_tl m hour j).length from hS.1]
            refine r_iload_n k_154_71 rfl ?_
            refine r_iastn (k := (hm_tl m hour j).length) k_154_72 rfl rfl rfl (by omega) (by decide) (wX_26 _) ?_
            refine r_aload_n k_154_73 rfl ?_
            refine r_get m_154 k_154_74 fl_8_69 rfl rfl ?_
            refine r_aload_n k_154_77 rfl ?_
            refine r_get m_154 k_154_78 fl_8_199 rfl rfl ?_
            rw [show hm_x m (hm_uM S 26 (upd (hm_x m S 26) (hm_tl m hour j).length (nI j))) 25 0 = nI (hm_tl m hour j).length from hS.1]
            refine r_aload_n k_154_81 rfl ?_
            refine r_iload_n k_154_82 rfl ?_
            refine r_iconst k_154_83 ci_4 ?_
            refine r_idiv k_154_84 (by decide) ?_
            rw [nI_div j 4 (by omega) (by decide) (by decide)]
            refine r_sipush k_154_85 cs_924 ?_
            refine r_aload_n k_154_88 rfl ?_
            refine r_get m_154 k_154_89 fl_8_199 rfl rfl ?_
            rw [show hm_x m (hm_uM S 26 (upd (hm_x m S 26) (hm_tl m hour j).length (nI j))) 25 0 = nI (hm_tl m hour j).length from hS.1]
            refine r_imul k_154_92 ?_
            rw [nI_mul]
            refine r_callv3 m_154 k_154_93 cl_8_202 m_155 (by decide) rfl rfl (Nat.le_of_ble_eq_true rfl) (Nat.le_of_ble_eq_true rfl) rfl rfl ?_
            refine s_155 (c := j / 4) (fr := 924 * (hm_tl m hour j).length) (L2 := LL (j / 4)) (mn := mn) (nb := nb) (by omega) hmn hnb hmnE hb hmL (hLn _) (by omega) (fun R => ?_)
            refine r_iastn (k := (hm_tl m hour j).length) k_154_96 rfl rfl rfl (by omega) (by decide) (wX_27 _) ?_
            refine r_aload_n k_154_97 rfl ?_
            refine r_dup k_154_98 rfl ?_
            refine r_get m_154 k_154_99 fl_8_199 rfl rfl ?_
            refine r_iconst k_154_102 ci_1 ?_
            refine r_iadd k_154_103 ?_
            refine r_put m_154 k_154_104 fl_8_199 rfl (Nat.le_of_ble_eq_true rfl) rfl rfl (wX_25 _) ?_
            refine r_iincn k_154_107 rfl (nI_inc j) rfl ?_
            refine r_goto k_154_110 rfl ?_
            have hS2 := hm_ts_add hS hLn j R
            rw [show hm_tl m hour j ++ [j] = hm_tl m hour (j + 1) from (if_pos ⟨Or.inr (hm_nIinj c_28 (by omega) (by omega)), c_38, c_49⟩).symm] at hS2
            exact ih (j + 1) _ (by omega) hS2
def hm_fi (g : Int32 → Option (List Nat)) : List Int32 → Nat → Option (List Nat)
  | [], _ => none
  | x :: L, q => match g x with
    | some p => some (q :: p)
    | none => hm_fi g L (q + 1)
def hm_ff : List (List Int32) → Int32 → Option (List Nat)
  | [], _ => some []
  | L :: Ls, u => hm_fi (fun x => if x &&& u = 0 then hm_ff Ls (u ||| x) else none) L 0
set_option maxRecDepth 20000 in
theorem l_154i {d n s : Nat} {m S : hm_M} {h : Nat → Option va_E} {Q : Option Value → hm_H → Prop} {nt : Nat} (hnt : S 25 0 = nI nt) (hnt8 : nt ≤ 8) {Ls : Nat → List Int32} (hLn : ∀ i, (Ls i).length ≤ 924) (hsz : ∀ i, i < nt → S 27 i = nI (Ls i).length) (hls : ∀ i q y, i < nt → (Ls i)[q]? = some y → S 28 (924 * i + q) = y) {hour u : Int32} {l : Nat} (hl : l < nt) {Lr : List (List Int32)} {C : Nat → Int32} (hKs : (∀ C2 u2 ps, hm_ff (Ls l :: Lr) u = some ps → (∀ i, i < l → C2 i = C i) → (∀ i q, ps[i]? = some q → C2 (l + i) = nI q) → hm_T d 154 124 [.ref 61, .int hour, .int (nI nt), .int u2] [] (hm_hM (hm_x m (hm_uM S 29 C2)) h n s) Q)) (hKf : (hm_ff (Ls l :: Lr) u = none → ∀ C2, (∀ i, i < l → C2 i = C i) → hm_T d 154 124 [.ref 61, .int hour, .int (hm_dn l), .int u] [] (hm_hM (hm_x m (hm_uM S 29 C2)) h n s) Q)) (ihO : ∀ (u3 : Int32) (C3 : Nat → Int32), (l + 1 < nt → C3 (l + 1) = -1) → (∀ C2 u2 ps, hm_ff Lr u3 = some ps → (∀ i, i < l + 1 → C2 i = C3 i) → (∀ i q, ps[i]? = some q → C2 (l + 1 + i) = nI q) → hm_T d 154 124 [.ref 61, .int hour, .int (nI nt), .int u2] [] (hm_hM (hm_x m (hm_uM S 29 C2)) h n s) Q) → (hm_ff Lr u3 = none → ∀ C2, (∀ i, i < l + 1 → C2 i = C3 i) → hm_T d 154 124 [.ref 61, .int hour, .int (nI l), .int u3] [] (hm_hM (hm_x m (hm_uM S 29 C2)) h n s) Q) → hm_T d 154 124 [.ref 61, .int hour, .int (nI (l + 1)), .int u3] [] (hm_hM (hm_x m (hm_uM S 29 C3)) h n s) Q) : ∀ (Lq : List Int32) (q : Nat) (C1 : Nat → Int32), (∀ i, (Ls l)[q + i]? = Lq[i]?) → (Ls l).length = q + Lq.length → hm_ff (Ls l :: Lr) u = hm_fi (fun x => if x &&& u = 0 then hm_ff Lr (u ||| x) else none) Lq q → (∀ i, i < l → C1 i = C i) → C1 l = nI q → hm_T d 154 177 [.ref 61, .int hour, .int (nI l), .int u] [] (hm_hM (hm_x m (hm_uM S 29 C1)) h n s) Q := by
  intro Lq
  induction Lq with
  | nil =>
    intro q C1 hq hlen he hC hCl
    have hlen2 : (Ls l).length = q := hlen
    have hq9 := hLn l
    refine r_aload_n k_154_177 rfl ?_
    refine r_get m_154 k_154_178 fl_8_75 rfl rfl ?_
    refine r_iload_n k_154_181 rfl ?_
    refine r_ialdn (k := l) k_154_182 rfl (Or.inl rfl) rfl (by omega) (by decide) ?_
    refine r_aload_n k_154_183 rfl ?_
    refine r_get m_154 k_154_184 fl_8_69 rfl rfl ?_
    refine r_iload_n k_154_187 rfl ?_
    refine r_ialdn (k := l) k_154_188 rfl (Or.inl rfl) rfl (by omega) (by decide) ?_
    rw [show hm_x m (hm_uM S 29 C1) 29 l = nI q from hCl, show hm_x m (hm_uM S 29 C1) 27 l = nI q from (hsz l hl).trans (by rw [hlen2])]
    refine r_icmp_ge k_154_189 rfl (fun c_189 => ?_) (fun z => absurd (nI_le (Nat.le_refl q) (by omega)) z)
    refine r_aload_n k_154_227 rfl ?_
    refine r_get m_154 k_154_228 fl_8_75 rfl rfl ?_
    refine r_iload_n k_154_231 rfl ?_
    refine r_ialdn (k := l) k_154_232 rfl (Or.inl rfl) rfl (by omega) (by decide) ?_
    refine r_aload_n k_154_233 rfl ?_
    refine r_get m_154 k_154_234 fl_8_69 rfl rfl ?_
    refine r_iload_n k_154_237 rfl ?_
    refine r_ialdn (k := l) k_154_238 rfl (Or.inl rfl) rfl (by omega) (by decide) ?_
    rw [show hm_x m (hm_uM S 29 C1) 29 l = nI q from hCl, show hm_x m (hm_uM S 29 C1) 27 l = nI q from (hsz l hl).trans (by rw [hlen2])]
    refine r_icmp_ne k_154_239 rfl (fun z => absurd z (fun z => z rfl)) (fun c_239 => ?_)
    refine r_iincn k_154_242 rfl (hm_dn_dec l) rfl ?_
    refine r_goto k_154_245 rfl ?_
    exact hKf he C1 hC
  | cons x Lq ih =>
    intro q C1 hq hlen he hC hCl
    have hlen2 : (Ls l).length = q + (Lq.length + 1) := hlen
    have hq9 := hLn l
    have hx : S 28 (924 * l + q) = x := hls l q x hl (hq 0)
    have hq2 : ∀ i, (Ls l)[q + 1 + i]? = Lq[i]? := fun i => by have e := hq (i + 1); rw [show q + (i + 1) = q + 1 + i by omega] at e; exact e
    refine r_aload_n k_154_177 rfl ?_
    refine r_get m_154 k_154_178 fl_8_75 rfl rfl ?_
    refine r_iload_n k_154_181 rfl ?_
    refine r_ialdn (k := l) k_154_182 rfl (Or.inl rfl) rfl (by omega) (by decide) ?_
    refine r_aload_n k_154_183 rfl ?_
    refine r_get m_154 k_154_184 fl_8_69 rfl rfl ?_
    refine r_iload_n k_154_187 rfl ?_
    refine r_ialdn (k := l) k_154_188 rfl (Or.inl rfl) rfl (by omega) (by decide) ?_
    rw [show hm_x m (hm_uM S 29 C1) 29 l = nI q from hCl, show hm_x m (hm_uM S 29 C1) 27 l = nI (Ls l).length from (hsz l hl).trans rfl]
    refine r_icmp_ge k_154_189 rfl (fun z => absurd z (nI_ge (show q < (Ls l).length by omega) (by omega))) (fun c_189 => ?_)
    refine r_aload_n k_154_192 rfl ?_
    refine r_get m_154 k_154_193 fl_8_72 rfl rfl ?_
    refine r_sipush k_154_196 cs_924 ?_
    refine r_iload_n k_154_199 rfl ?_
    refine r_imul k_154_200 ?_
    refine r_aload_n k_154_201 rfl ?_
    refine r_get m_154 k_154_202 fl_8_75 rfl rfl ?_
    refine r_iload_n k_154_205 rfl ?_
    refine r_ialdn (k := l) k_154_206 rfl (Or.inl rfl) rfl (by omega) (by decide) ?_
    refine r_iadd k_154_207 ?_
    refine r_ialdn (k := 924 * l + q) k_154_208 rfl (Or.inl rfl) (by rw [nI_mul, show hm_x m (hm_uM S 29 C1) 29 l = nI q from hCl, nI_add]) (by omega) (by decide) ?_
    rw [show hm_x m (hm_uM S 29 C1) 28 (924 * l + q) = x from hx]
    refine r_iload_n k_154_209 rfl ?_
    refine r_iand k_154_210 ?_
    refine r_if_eq k_154_211 rfl (fun c_211 => ?_) (fun c_211 => ?_)
    · refine r_aload_n k_154_227 rfl ?_
      refine r_get m_154 k_154_228 fl_8_75 rfl rfl ?_
      refine r_iload_n k_154_231 rfl ?_
      refine r_ialdn (k := l) k_154_232 rfl (Or.inl rfl) rfl (by omega) (by decide) ?_
      refine r_aload_n k_154_233 rfl ?_
      refine r_get m_154 k_154_234 fl_8_69 rfl rfl ?_
      refine r_iload_n k_154_237 rfl ?_
      refine r_ialdn (k := l) k_154_238 rfl (Or.inl rfl) rfl (by omega) (by decide) ?_
      rw [show hm_x m (hm_uM S 29 C1) 29 l = nI q from hCl, show hm_x m (hm_uM S 29 C1) 27 l = nI (Ls l).length from (hsz l hl).trans rfl]
      refine r_icmp_ne k_154_239 rfl (fun c_239 => ?_) (fun z => absurd (fun z2 => absurd (hm_nIinj z2 (by omega) (by omega)) (by omega)) z)
      refine r_iload_n k_154_248 rfl ?_
      refine r_aload_n k_154_249 rfl ?_
      refine r_get m_154 k_154_250 fl_8_72 rfl rfl ?_
      refine r_sipush k_154_253 cs_924 ?_
      refine r_iload_n k_154_256 rfl ?_
      refine r_imul k_154_257 ?_
      refine r_aload_n k_154_258 rfl ?_
      refine r_get m_154 k_154_259 fl_8_75 rfl rfl ?_
      refine r_iload_n k_154_262 rfl ?_
      refine r_ialdn (k := l) k_154_263 rfl (Or.inl rfl) rfl (by omega) (by decide) ?_
      refine r_iadd k_154_264 ?_
      refine r_ialdn (k := 924 * l + q) k_154_265 rfl (Or.inl rfl) (by rw [nI_mul, show hm_x m (hm_uM S 29 C1) 29 l = nI q from hCl, nI_add]) (by omega) (by decide) ?_
      rw [show hm_x m (hm_uM S 29 C1) 28 (924 * l + q) = x from hx]
      refine r_ior k_154_266 ?_
      refine r_istore_n k_154_267 rfl ?_
      refine r_iincn k_154_268 rfl (nI_inc l) rfl ?_
      refine r_iload_n k_154_271 rfl ?_
      refine r_aload_n k_154_272 rfl ?_
      refine r_get m_154 k_154_273 fl_8_199 rfl rfl ?_
      rw [show hm_x m (hm_uM S 29 C1) 25 0 = nI nt from hnt]
      refine r_icmp_ge k_154_276 rfl (fun c_276 => ?_) (fun c_276 => ?_)
      · refine ihO (u ||| x) C1 (fun z => absurd c_276 (nI_ge z (by omega))) (fun C2 u2 ps h1 h2 h3 => ?_) (fun h1 C2 h2 => ?_)
        · refine hKs C2 u2 (q :: ps) (he.trans ?_) (fun i hi => ?_) (fun i q2 hi => ?_)
          · show (match (if x &&& u = 0 then hm_ff Lr (u ||| x) else none) with | some p => some (q :: p) | none => _) = _
            rw [if_pos c_211, h1]
          · exact (h2 i (by omega)).trans ((show C1 i = C1 i from rfl).trans (hC i hi))
          · cases i with
            | zero =>
              cases hi
              exact (h2 l (by omega)).trans ((show C1 l = C1 l from rfl).trans hCl)
            | succ i =>
              have e := h3 i q2 hi
              rw [show l + 1 + i = l + (i + 1) by omega] at e
              exact e
        · have hC2 : ∀ i, i < l + 1 → C2 i = C1 i := fun i hi => (h2 i hi).trans rfl
          have hC2l : C2 l = nI q := (hC2 l (by omega)).trans hCl
          refine r_iload_n k_154_124 rfl ?_
          refine r_if_lt k_154_125 rfl (fun z => absurd z (nI_pos (n := l) (by omega))) (fun c_125 => ?_)
          refine r_iload_n k_154_128 rfl ?_
          refine r_aload_n k_154_129 rfl ?_
          refine r_get m_154 k_154_130 fl_8_199 rfl rfl ?_
          rw [show hm_x m (hm_uM S 29 C2) 25 0 = nI nt from hnt]
          refine r_icmp_ge k_154_133 rfl (fun z => absurd z (nI_ge (show l < nt by omega) (by omega))) (fun c_133 => ?_)
          refine r_aload_n k_154_136 rfl ?_
          refine r_get m_154 k_154_137 fl_8_75 rfl rfl ?_
          refine r_iload_n k_154_140 rfl ?_
          refine r_ialdn (k := l) k_154_141 rfl (Or.inl rfl) rfl (by omega) (by decide) ?_
          refine r_if_lt k_154_142 rfl (fun z => absurd z (show ¬ hm_x m (hm_uM S 29 C2) 29 l < 0 by rw [show hm_x m (hm_uM S 29 C2) 29 l = nI q from hC2l]; exact nI_pos (by omega))) (fun c_142 => ?_)
          refine r_iload_n k_154_145 rfl ?_
          refine r_aload_n k_154_146 rfl ?_
          refine r_get m_154 k_154_147 fl_8_72 rfl rfl ?_
          refine r_sipush k_154_150 cs_924 ?_
          refine r_iload_n k_154_153 rfl ?_
          refine r_imul k_154_154 ?_
          refine r_aload_n k_154_155 rfl ?_
          refine r_get m_154 k_154_156 fl_8_75 rfl rfl ?_
          refine r_iload_n k_154_159 rfl ?_
          refine r_ialdn (k := l) k_154_160 rfl (Or.inl rfl) rfl (by omega) (by decide) ?_
          refine r_iadd k_154_161 ?_
          refine r_ialdn (k := 924 * l + q) k_154_162 rfl (Or.inl rfl) (by rw [nI_mul, show hm_x m (hm_uM S 29 C2) 29 l = nI q from hC2l, nI_add]) (by omega) (by decide) ?_
          rw [show hm_x m (hm_uM S 29 C2) 28 (924 * l + q) = x from hx]
          refine r_iconst k_154_163 ci_m1 ?_
          refine r_ixor k_154_164 ?_
          refine r_iand k_154_165 ?_
          rw [hm_bit u x c_211]
          refine r_istore_n k_154_166 rfl ?_
          refine r_aload_n k_154_167 rfl ?_
          refine r_get m_154 k_154_168 fl_8_75 rfl rfl ?_
          refine r_iload_n k_154_171 rfl ?_
          refine r_dup2 k_154_172 rfl rfl ?_
          refine r_ialdn (k := l) k_154_173 rfl (Or.inl rfl) rfl (by omega) (by decide) ?_
          refine r_iconst k_154_174 ci_1 ?_
          refine r_iadd k_154_175 ?_
          refine r_iastn (k := l) k_154_176 rfl rfl rfl (by omega) (by decide) ((wX_29 _).trans (by rw [hm_uM2])) ?_
          refine ih (q + 1) _ hq2 (by omega) (he.trans ?_) (fun i hi => ?_) ?_
          · show (match (if x &&& u = 0 then hm_ff Lr (u ||| x) else none) with | some p => some (q :: p) | none => _) = _
            rw [if_pos c_211, h1]
          · exact (if_neg (by omega)).trans ((hC2 i (by omega)).trans (hC i hi))
          · show (if l = l then hm_x m (hm_uM S 29 C2) 29 l + nI 1 else _) = _
            rw [if_pos rfl, show hm_x m (hm_uM S 29 C2) 29 l = nI q from hC2l, nI_add]
      · refine r_aload_n k_154_279 rfl ?_
        refine r_get m_154 k_154_280 fl_8_75 rfl rfl ?_
        refine r_iload_n k_154_283 rfl ?_
        refine r_iconst k_154_284 ci_m1 ?_
        refine r_iastn (k := l + 1) k_154_285 rfl rfl rfl (by have := hm_nle c_276 (by omega); omega) (by decide) ((wX_29 _).trans (by rw [hm_uM2])) ?_
        refine r_goto k_154_286 rfl ?_
        refine ihO (u ||| x) (upd C1 (l + 1) (-1)) (fun _ => if_pos rfl) (fun C2 u2 ps h1 h2 h3 => ?_) (fun h1 C2 h2 => ?_)
        · refine hKs C2 u2 (q :: ps) (he.trans ?_) (fun i hi => ?_) (fun i q2 hi => ?_)
          · show (match (if x &&& u = 0 then hm_ff Lr (u ||| x) else none) with | some p => some (q :: p) | none => _) = _
            rw [if_pos c_211, h1]
          · exact (h2 i (by omega)).trans ((show (upd C1 (l + 1) (-1)) i = C1 i from (if_neg (by omega))).trans (hC i hi))
          · cases i with
            | zero =>
              cases hi
              exact (h2 l (by omega)).trans ((show (upd C1 (l + 1) (-1)) l = C1 l from (if_neg (by omega))).trans hCl)
            | succ i =>
              have e := h3 i q2 hi
              rw [show l + 1 + i = l + (i + 1) by omega] at e
              exact e
        · have hC2 : ∀ i, i < l + 1 → C2 i = C1 i := fun i hi => (h2 i hi).trans (if_neg (by omega))
          have hC2l : C2 l = nI q := (hC2 l (by omega)).trans hCl
          refine r_iload_n k_154_124 rfl ?_
          refine r_if_lt k_154_125 rfl (fun z => absurd z (nI_pos (n := l) (by omega))) (fun c_125 => ?_)
          refine r_iload_n k_154_128 rfl ?_
          refine r_aload_n k_154_129 rfl ?_
          refine r_get m_154 k_154_130 fl_8_199 rfl rfl ?_
          rw [show hm_x m (hm_uM S 29 C2) 25 0 = nI nt from hnt]
          refine r_icmp_ge k_154_133 rfl (fun z => absurd z (nI_ge (show l < nt by omega) (by omega))) (fun c_133 => ?_)
          refine r_aload_n k_154_136 rfl ?_
          refine r_get m_154 k_154_137 fl_8_75 rfl rfl ?_
          refine r_iload_n k_154_140 rfl ?_
          refine r_ialdn (k := l) k_154_141 rfl (Or.inl rfl) rfl (by omega) (by decide) ?_
          refine r_if_lt k_154_142 rfl (fun z => absurd z (show ¬ hm_x m (hm_uM S 29 C2) 29 l < 0 by rw [show hm_x m (hm_uM S 29 C2) 29 l = nI q from hC2l]; exact nI_pos (by omega))) (fun c_142 => ?_)
          refine r_iload_n k_154_145 rfl ?_
          refine r_aload_n k_154_146 rfl ?_
          refine r_get m_154 k_154_147 fl_8_72 rfl rfl ?_
          refine r_sipush k_154_150 cs_924 ?_
          refine r_iload_n k_154_153 rfl ?_
          refine r_imul k_154_154 ?_
          refine r_aload_n k_154_155 rfl ?_
          refine r_get m_154 k_154_156 fl_8_75 rfl rfl ?_
          refine r_iload_n k_154_159 rfl ?_
          refine r_ialdn (k := l) k_154_160 rfl (Or.inl rfl) rfl (by omega) (by decide) ?_
          refine r_iadd k_154_161 ?_
          refine r_ialdn (k := 924 * l + q) k_154_162 rfl (Or.inl rfl) (by rw [nI_mul, show hm_x m (hm_uM S 29 C2) 29 l = nI q from hC2l, nI_add]) (by omega) (by decide) ?_
          rw [show hm_x m (hm_uM S 29 C2) 28 (924 * l + q) = x from hx]
          refine r_iconst k_154_163 ci_m1 ?_
          refine r_ixor k_154_164 ?_
          refine r_iand k_154_165 ?_
          rw [hm_bit u x c_211]
          refine r_istore_n k_154_166 rfl ?_
          refine r_aload_n k_154_167 rfl ?_
          refine r_get m_154 k_154_168 fl_8_75 rfl rfl ?_
          refine r_iload_n k_154_171 rfl ?_
          refine r_dup2 k_154_172 rfl rfl ?_
          refine r_ialdn (k := l) k_154_173 rfl (Or.inl rfl) rfl (by omega) (by decide) ?_
          refine r_iconst k_154_174 ci_1 ?_
          refine r_iadd k_154_175 ?_
          refine r_iastn (k := l) k_154_176 rfl rfl rfl (by omega) (by decide) ((wX_29 _).trans (by rw [hm_uM2])) ?_
          refine ih (q + 1) _ hq2 (by omega) (he.trans ?_) (fun i hi => ?_) ?_
          · show (match (if x &&& u = 0 then hm_ff Lr (u ||| x) else none) with | some p => some (q :: p) | none => _) = _
            rw [if_pos c_211, h1]
          · exact (if_neg (by omega)).trans ((hC2 i (by omega)).trans (hC i hi))
          · show (if l = l then hm_x m (hm_uM S 29 C2) 29 l + nI 1 else _) = _
            rw [if_pos rfl, show hm_x m (hm_uM S 29 C2) 29 l = nI q from hC2l, nI_add]
    · refine r_aload_n k_154_214 rfl ?_
      refine r_get m_154 k_154_215 fl_8_75 rfl rfl ?_
      refine r_iload_n k_154_218 rfl ?_
      refine r_dup2 k_154_219 rfl rfl ?_
      refine r_ialdn (k := l) k_154_220 rfl (Or.inl rfl) rfl (by omega) (by decide) ?_
      refine r_iconst k_154_221 ci_1 ?_
      refine r_iadd k_154_222 ?_
      refine r_iastn (k := l) k_154_223 rfl rfl rfl (by omega) (by decide) ((wX_29 _).trans (by rw [hm_uM2])) ?_
      refine r_goto k_154_224 rfl ?_
      refine ih (q + 1) _ hq2 (by omega) (he.trans ?_) (fun i hi => ?_) ?_
      · show (match (if x &&& u = 0 then hm_ff Lr (u ||| x) else none) with | some p => some (q :: p) | none => _) = _
        rw [if_neg c_211]
      · exact (if_neg (by omega)).trans (hC i hi)
      · show (if l = l then hm_x m (hm_uM S 29 C1) 29 l + nI 1 else _) = _
        rw [if_pos rfl, show hm_x m (hm_uM S 29 C1) 29 l = nI q from hCl, nI_add]
set_option maxRecDepth 20000 in
theorem l_154o {d n s : Nat} {m S : hm_M} {h : Nat → Option va_E} {Q : Option Value → hm_H → Prop} {nt : Nat} (hnt : S 25 0 = nI nt) (hnt8 : nt ≤ 8) {Ls : Nat → List Int32} (hLn : ∀ i, (Ls i).length ≤ 924) (hsz : ∀ i, i < nt → S 27 i = nI (Ls i).length) (hls : ∀ i q y, i < nt → (Ls i)[q]? = some y → S 28 (924 * i + q) = y) {hour : Int32} : ∀ (Lr : List (List Int32)) (l : Nat) (u : Int32) (C : Nat → Int32), l + Lr.length = nt → (∀ i L, Lr[i]? = some L → L = Ls (l + i)) → (l < nt → C l = -1) → (∀ C2 u2 ps, hm_ff Lr u = some ps → (∀ i, i < l → C2 i = C i) → (∀ i q, ps[i]? = some q → C2 (l + i) = nI q) → hm_T d 154 124 [.ref 61, .int hour, .int (nI nt), .int u2] [] (hm_hM (hm_x m (hm_uM S 29 C2)) h n s) Q) → (hm_ff Lr u = none → ∀ C2, (∀ i, i < l → C2 i = C i) → hm_T d 154 124 [.ref 61, .int hour, .int (hm_dn l), .int u] [] (hm_hM (hm_x m (hm_uM S 29 C2)) h n s) Q) → hm_T d 154 124 [.ref 61, .int hour, .int (nI l), .int u] [] (hm_hM (hm_x m (hm_uM S 29 C)) h n s) Q := by
  intro Lr
  induction Lr with
  | nil =>
    intro l u C hl hL hC hKs hKf
    have hl2 : l = nt := hl
    subst hl2
    exact hKs C u [] rfl (fun _ _ => rfl) (fun i q h => by cases h)
  | cons L Lr ih =>
    intro l u C hl hL hC hKs hKf
    have hl2 : l + (Lr.length + 1) = nt := hl
    have hLl : L = Ls l := hL 0 L rfl
    subst hLl
    have hCl : hm_x m (hm_uM S 29 C) 29 l = -1 := hC (by omega)
    refine r_iload_n k_154_124 rfl ?_
    refine r_if_lt k_154_125 rfl (fun z => absurd z (nI_pos (n := l) (by omega))) (fun c_125 => ?_)
    refine r_iload_n k_154_128 rfl ?_
    refine r_aload_n k_154_129 rfl ?_
    refine r_get m_154 k_154_130 fl_8_199 rfl rfl ?_
    rw [show hm_x m (hm_uM S 29 C) 25 0 = nI nt from hnt]
    refine r_icmp_ge k_154_133 rfl (fun z => absurd z (nI_ge (show l < nt by omega) (by omega))) (fun c_133 => ?_)
    refine r_aload_n k_154_136 rfl ?_
    refine r_get m_154 k_154_137 fl_8_75 rfl rfl ?_
    refine r_iload_n k_154_140 rfl ?_
    refine r_ialdn (k := l) k_154_141 rfl (Or.inl rfl) rfl (by omega) (by decide) ?_
    refine r_if_lt k_154_142 rfl (fun c_142 => ?_) (fun z => absurd (show hm_x m (hm_uM S 29 C) 29 l < 0 by rw [hCl]; decide +kernel) z)
    refine r_aload_n k_154_167 rfl ?_
    refine r_get m_154 k_154_168 fl_8_75 rfl rfl ?_
    refine r_iload_n k_154_171 rfl ?_
    refine r_dup2 k_154_172 rfl rfl ?_
    refine r_ialdn (k := l) k_154_173 rfl (Or.inl rfl) rfl (by omega) (by decide) ?_
    refine r_iconst k_154_174 ci_1 ?_
    refine r_iadd k_154_175 ?_
    refine r_iastn (k := l) k_154_176 rfl rfl rfl (by omega) (by decide) ((wX_29 _).trans (by rw [hm_uM2])) ?_
    refine l_154i (u := u) (Lr := Lr) (C := C) hnt hnt8 hLn hsz hls (by omega) hKs hKf (fun u3 C3 hc3 k1 k2 => ?_) (Ls l) 0 _ (fun i => by rw [Nat.zero_add]) (by omega) rfl (fun i hi => if_neg (by omega)) ?_
    · exact ih (l + 1) u3 C3 (by omega) (fun i L2 hi => by have e := hL (i + 1) L2 hi; rw [show l + (i + 1) = l + 1 + i by omega] at e; exact e) hc3 k1 k2
    · show (if l = l then hm_x m (hm_uM S 29 C) 29 l + nI 1 else _) = nI 0
      rw [if_pos rfl, hCl]
      decide +kernel
def hm_fs (m : hm_M) (LL : Nat → List Int32) (hour : Int32) (nc : Nat) : Option (List Nat) := hm_ff ((hm_tl m hour (4 * nc)).map (fun x => LL (x / 4))) (nI 0)
theorem hm_ts_c {S : hm_M} {LL : Nat → List Int32} {Ts : List Nat} {C : Nat → Int32} (h : hm_ts S LL Ts) : hm_ts (hm_uM S 29 C) LL Ts := h
set_option maxRecDepth 20000 in
theorem s_154 {d n s : Nat} {m S : hm_M} {h : Nat → Option va_E} {Q : Option Value → hm_H → Prop} {hour : Int32} {nc nb : Nat} {LL : Nat → List Int32} (hn : m 9 0 = nI nc) (hnc : nc ≤ 16) (hnb : nb ≤ 12) (hb : m 2 0 = nI nb) (hLn : ∀ c, (LL c).length ≤ 924) (hLL : ∀ c, c < nc → ¬ m 12 c ≤ 0 → ∃ mn, m 12 c = nI mn ∧ mn ≤ 6 ∧ hm_LL (m 3) (m 13 c) mn nb (LL c)) (hT : (hm_tl m hour (4 * nc)).length ≤ 8) (hQ : ∀ S2, (∀ ps, hm_fs m LL hour nc = some ps → hm_ts S2 LL (hm_tl m hour (4 * nc)) ∧ ∀ i q, ps[i]? = some q → S2 29 i = nI q) → Q (some (.int (if (hm_fs m LL hour nc).isSome = true then nI 1 else nI 0))) (hm_hM (hm_x m S2) h n s)) : hm_T (d + 1) 154 0 [.ref 61, .int hour, .retAddr 0, .retAddr 0] [] (hm_hM (hm_x m S) h n s) Q := by
  refine r_aload_n k_154_0 rfl ?_
  refine r_iconst k_154_1 ci_0 ?_
  refine r_put m_154 k_154_2 fl_8_199 rfl (Nat.le_of_ble_eq_true rfl) rfl rfl (wX_25 _) ?_
  refine r_iconst k_154_5 ci_0 ?_
  refine r_istore_n k_154_6 rfl ?_
  refine l_154 hn hnc hnb hb hLn hLL hT (fun S2 hS2 => ?_) (4 * nc) 0 _ (by omega) ⟨rfl, fun i x hx => by cases hx⟩
  refine r_iconst k_154_113 ci_0 ?_
  refine r_istore_n k_154_114 rfl ?_
  refine r_iconst k_154_115 ci_0 ?_
  refine r_istore_n k_154_116 rfl ?_
  refine r_aload_n k_154_117 rfl ?_
  refine r_get m_154 k_154_118 fl_8_75 rfl rfl ?_
  refine r_iconst k_154_121 ci_0 ?_
  refine r_iconst k_154_122 ci_m1 ?_
  refine r_iastn (k := 0) k_154_123 rfl rfl rfl (by decide) (by decide) (wX_29 _) ?_
  have hsz : ∀ i, i < (hm_tl m hour (4 * nc)).length → S2 27 i = nI (((fun i => LL ((hm_tl m hour (4 * nc))[i]?.getD 0 / 4)) i)).length := fun i hi => by
    have e := hS2.2 i _ (List.getElem?_eq_getElem hi)
    dsimp only
    rw [List.getElem?_eq_getElem hi]
    exact e.2.1
  have hls : ∀ i q y, i < (hm_tl m hour (4 * nc)).length → ((fun i => LL ((hm_tl m hour (4 * nc))[i]?.getD 0 / 4)) i)[q]? = some y → S2 28 (924 * i + q) = y := fun i q y hi hy => by
    have e := hS2.2 i _ (List.getElem?_eq_getElem hi)
    dsimp only at hy
    rw [List.getElem?_eq_getElem hi] at hy
    exact e.2.2 q y hy
  refine l_154o (S := S2) hS2.1 hT (Ls := fun i => LL ((hm_tl m hour (4 * nc))[i]?.getD 0 / 4)) (fun i => hLn _) hsz hls ((hm_tl m hour (4 * nc)).map (fun x => LL (x / 4))) 0 (nI 0) _ (by rw [List.length_map]; omega) (fun i L hi => ?_) (fun _ => if_pos rfl) (fun C2 u2 ps h1 h2 h3 => ?_) (fun h1 C2 h2 => ?_)
  · rw [List.getElem?_map] at hi
    rw [Nat.zero_add]
    cases h9 : (hm_tl m hour (4 * nc))[i]? with
    | none => rw [h9] at hi; cases hi
    | some x => rw [h9] at hi; cases hi; rfl
  · have e := hQ (hm_uM S2 29 C2) (fun ps2 h4 => ⟨hm_ts_c hS2, fun i q hi => by rw [show hm_fs m LL hour nc = some ps from h1] at h4; cases h4; have e2 := h3 i q hi; rw [Nat.zero_add] at e2; exact e2⟩)
    rw [show hm_fs m LL hour nc = some ps from h1] at e
    refine r_iload_n k_154_124 rfl ?_
    refine r_if_lt k_154_125 rfl (fun z => absurd z (nI_pos (n := (hm_tl m hour (4 * nc)).length) (by omega))) (fun c_125 => ?_)
    refine r_iload_n k_154_128 rfl ?_
    refine r_aload_n k_154_129 rfl ?_
    refine r_get m_154 k_154_130 fl_8_199 rfl rfl ?_
    rw [show hm_x m (hm_uM S2 29 C2) 25 0 = nI (hm_tl m hour (4 * nc)).length from hS2.1]
    refine r_icmp_ge k_154_133 rfl (fun c_133 => ?_) (fun z => absurd (nI_le (Nat.le_refl _) (by omega)) z)
    refine r_iload_n k_154_289 rfl ?_
    refine r_aload_n k_154_290 rfl ?_
    refine r_get m_154 k_154_291 fl_8_199 rfl rfl ?_
    rw [show hm_x m (hm_uM S2 29 C2) 25 0 = nI (hm_tl m hour (4 * nc)).length from hS2.1]
    refine r_icmp_ne k_154_294 rfl (fun z => absurd z (fun z => z rfl)) (fun c_294 => ?_)
    refine r_iconst k_154_297 ci_1 ?_
    refine r_goto k_154_298 rfl ?_
    exact hm_T.ret m_154 k_154_302 rfl e
  · have e := hQ (hm_uM S2 29 C2) (fun ps2 h4 => by rw [show hm_fs m LL hour nc = none from h1] at h4; cases h4)
    rw [show hm_fs m LL hour nc = none from h1] at e
    refine r_iload_n k_154_124 rfl ?_
    refine r_if_lt k_154_125 rfl (fun c_125 => ?_) (fun z => absurd (show hm_dn 0 < 0 by decide +kernel) z)
    refine r_iload_n k_154_289 rfl ?_
    refine r_aload_n k_154_290 rfl ?_
    refine r_get m_154 k_154_291 fl_8_199 rfl rfl ?_
    rw [show hm_x m (hm_uM S2 29 C2) 25 0 = nI (hm_tl m hour (4 * nc)).length from hS2.1]
    refine r_icmp_ne k_154_294 rfl (fun c_294 => ?_) (fun z => absurd (fun z => absurd (show hm_dn 0 < 0 by decide +kernel) (by rw [z]; exact nI_pos (by omega))) z)
    refine r_iconst k_154_301 ci_0 ?_
    exact hm_T.ret m_154 k_154_302 rfl e
