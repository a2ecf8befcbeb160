def hm_cnt (P : Nat → Bool) : Nat → Nat
  | 0 => 0
  | n + 1 => hm_cnt P n + (if P n = true then 1 else 0)
theorem hm_cnt_y {P : Nat → Bool} {c : Nat} (h : P c = true) : nI (hm_cnt P (c + 1)) = nI (hm_cnt P c) + nI 1 := by
  rw [nI_add]
  show nI (hm_cnt P c + (if P c = true then 1 else 0)) = _
  rw [if_pos h]
theorem hm_cnt_n {P : Nat → Bool} {c : Nat} (h : P c = false) : nI (hm_cnt P (c + 1)) = nI (hm_cnt P c) + nI 0 := by
  rw [nI_add]
  show nI (hm_cnt P c + (if P c = true then 1 else 0)) = _
  rw [if_neg (by rw [h]; decide)]
def hm_sg (f : Nat → Int32) : Nat → Int32
  | 0 => nI 0
  | n + 1 => hm_sg f n + f n
def hm_re0 (f g : Int32) : Int32 := if 0 ≤ f then (if 0 ≤ g then (if g ≤ f then g else f) else f) else g
/-- the last hour of a room -/
def hm_re (f g : Int32) : Int32 := if 0 ≤ hm_re0 f g then hm_re0 f g - nI 1 else nI 399
theorem hm_if0 {P : Prop} [Decidable P] (h : (if P then (1 : Int32) else 0) = 0) : ¬ P := by
  intro hp
  rw [if_pos hp] at h
  exact absurd h (by decide)
theorem hm_if1 {P : Prop} [Decidable P] (h : ¬ (if P then (1 : Int32) else 0) = 0) : P := by
  by_cases hp : P
  · exact hp
  · exact absurd (if_neg hp) h
set_option maxRecDepth 20000 in
theorem l_121 {d n s : Nat} {m : hm_M} {h : Nat → Option va_E} {Q : Option Value → hm_H → Prop} {nc : Nat} (hn : m 9 0 = nI nc) (hnc : nc ≤ 16) {t : Nat} (ht : t < 4) {hour : Int32} (hQ : Q (some (.int (nI (hm_cnt (fun c => decide (m 15 (4 * c + t) = hour)) nc)))) (hm_hM m h n s)) : ∀ (k c : Nat), c + k = nc → hm_T (d + 1) 121 5 [.ref 61, .int hour, .int (nI t), .int (nI (hm_cnt (fun c => decide (m 15 (4 * c + t) = hour)) c)), .int (nI c)] [] (hm_hM m h n s) Q := by
  intro k
  induction k with
  | zero =>
    intro c hc
    refine r_iload k_121_5 rfl ?_
    refine r_aload_n k_121_7 rfl ?_
    refine r_get m_121 k_121_8 fl_8_81 rfl rfl ?_
    rw [hn]
    refine r_icmp_ge k_121_11 rfl (fun c_11 => ?_) (fun z => absurd (nI_le (show nc ≤ c by omega) (by omega)) z)
    refine r_iload_n k_121_39 rfl ?_
    exact hm_T.ret m_121 k_121_40 rfl (by rw [show nc = c by omega] at hQ; exact hQ)
  | succ k ih =>
    intro c hc
    refine r_iload k_121_5 rfl ?_
    refine r_aload_n k_121_7 rfl ?_
    refine r_get m_121 k_121_8 fl_8_81 rfl rfl ?_
    rw [hn]
    refine r_icmp_ge k_121_11 rfl (fun z => absurd z (nI_ge (show c < nc by omega) (by omega))) (fun c_11 => ?_)
    refine r_iload_n k_121_14 rfl ?_
    refine r_aload_n k_121_15 rfl ?_
    refine r_iload k_121_16 rfl ?_
    refine r_iload_n k_121_18 rfl ?_
    refine r_callv3 m_121 k_121_19 cl_8_92 m_122 (by decide) rfl rfl (Nat.le_of_ble_eq_true rfl) (Nat.le_of_ble_eq_true rfl) rfl rfl ?_
    refine s_122 (c := c) (t := t) (by omega) ht ?_
    refine r_iload_n k_121_22 rfl ?_
    refine r_icmp_ne k_121_23 rfl (fun c_23 => ?_) (fun c_23 => ?_)
    · refine r_iconst k_121_30 ci_0 ?_
      refine r_iadd k_121_31 ?_
      refine r_istore_n k_121_32 rfl ?_
      refine r_iincn k_121_33 rfl (nI_inc c) rfl ?_
      refine r_goto k_121_36 rfl ?_
      have e := ih (c + 1) (by omega)
      rw [hm_cnt_n (P := (fun c => decide (m 15 (4 * c + t) = hour))) (decide_eq_false c_23)] at e
      exact e
    · have c_23 := Decidable.of_not_not c_23
      refine r_iconst k_121_26 ci_1 ?_
      refine r_goto k_121_27 rfl ?_
      refine r_iadd k_121_31 ?_
      refine r_istore_n k_121_32 rfl ?_
      refine r_iincn k_121_33 rfl (nI_inc c) rfl ?_
      refine r_goto k_121_36 rfl ?_
      have e := ih (c + 1) (by omega)
      rw [hm_cnt_y (P := (fun c => decide (m 15 (4 * c + t) = hour))) (decide_eq_true c_23)] at e
      exact e
set_option maxRecDepth 20000 in
theorem s_121 {d n s : Nat} {m : hm_M} {h : Nat → Option va_E} {Q : Option Value → hm_H → Prop} {nc : Nat} (hn : m 9 0 = nI nc) (hnc : nc ≤ 16) {t : Nat} (ht : t < 4) {hour : Int32} (hQ : Q (some (.int (nI (hm_cnt (fun c => decide (m 15 (4 * c + t) = hour)) nc)))) (hm_hM m h n s)) : hm_T (d + 1) 121 0 [.ref 61, .int hour, .int (nI t), .retAddr 0, .retAddr 0] [] (hm_hM m h n s) Q := by
  refine r_iconst k_121_0 ci_0 ?_
  refine r_istore_n k_121_1 rfl ?_
  refine r_iconst k_121_2 ci_0 ?_
  refine r_istore k_121_3 rfl ?_
  exact l_121 hn hnc ht hQ nc 0 (by omega)
set_option maxRecDepth 20000 in
theorem s_120 {d n s : Nat} {m : hm_M} {h : Nat → Option va_E} {Q : Option Value → hm_H → Prop} {nc : Nat} (hn : m 9 0 = nI nc) (hnc : nc ≤ 16) {hour : Int32} (hQ : Q (some (.int (nI (hm_cnt (fun c => decide (m 15 (4 * c + 0) = hour)) nc + hm_cnt (fun c => decide (m 15 (4 * c + 1) = hour)) nc + hm_cnt (fun c => decide (m 15 (4 * c + 2) = hour)) nc + hm_cnt (fun c => decide (m 15 (4 * c + 3) = hour)) nc)))) (hm_hM m h n s)) : hm_T (d + 2) 120 0 [.ref 61, .int hour] [] (hm_hM m h n s) Q := by
  refine r_aload_n k_120_0 rfl ?_
  refine r_iload_n k_120_1 rfl ?_
  refine r_iconst k_120_2 ci_0 ?_
  refine r_callv3 m_120 k_120_3 cl_8_96 m_121 (by decide) rfl rfl (Nat.le_of_ble_eq_true rfl) (Nat.le_of_ble_eq_true rfl) rfl rfl ?_
  refine s_121 (t := 0) hn hnc (by decide) ?_
  refine r_aload_n k_120_6 rfl ?_
  refine r_iload_n k_120_7 rfl ?_
  refine r_iconst k_120_8 ci_1 ?_
  refine r_callv3 m_120 k_120_9 cl_8_96 m_121 (by decide) rfl rfl (Nat.le_of_ble_eq_true rfl) (Nat.le_of_ble_eq_true rfl) rfl rfl ?_
  refine s_121 (t := 1) hn hnc (by decide) ?_
  refine r_iadd k_120_12 ?_
  refine r_aload_n k_120_13 rfl ?_
  refine r_iload_n k_120_14 rfl ?_
  refine r_iconst k_120_15 ci_2 ?_
  refine r_callv3 m_120 k_120_16 cl_8_96 m_121 (by decide) rfl rfl (Nat.le_of_ble_eq_true rfl) (Nat.le_of_ble_eq_true rfl) rfl rfl ?_
  refine s_121 (t := 2) hn hnc (by decide) ?_
  refine r_iadd k_120_19 ?_
  refine r_aload_n k_120_20 rfl ?_
  refine r_iload_n k_120_21 rfl ?_
  refine r_iconst k_120_22 ci_3 ?_
  refine r_callv3 m_120 k_120_23 cl_8_96 m_121 (by decide) rfl rfl (Nat.le_of_ble_eq_true rfl) (Nat.le_of_ble_eq_true rfl) rfl rfl ?_
  refine s_121 (t := 3) hn hnc (by decide) ?_
  refine r_iadd k_120_26 ?_
  exact hm_T.ret m_120 k_120_27 rfl (by rw [nI_add, nI_add, nI_add]; exact hQ)
set_option maxRecDepth 20000 in
theorem s_124 {d n s : Nat} {m : hm_M} {h : Nat → Option va_E} {Q : Option Value → hm_H → Prop} {c : Nat} (hc : c < 16) (hQ : Q (some (.int (hm_re (m 15 (4 * c + 2)) (m 15 (4 * c + 3))))) (hm_hM m h n s)) : hm_T (d + 1) 124 0 [.ref 61, .int (nI c), .retAddr 0, .retAddr 0, .retAddr 0] [] (hm_hM m h n s) Q := by
  refine r_aload_n k_124_0 rfl ?_
  refine r_iload_n k_124_1 rfl ?_
  refine r_iconst k_124_2 ci_2 ?_
  refine r_callv3 m_124 k_124_3 cl_8_92 m_122 (by decide) rfl rfl (Nat.le_of_ble_eq_true rfl) (Nat.le_of_ble_eq_true rfl) rfl rfl ?_
  refine s_122 (c := c) (t := 2) hc (by decide) ?_
  refine r_istore_n k_124_6 rfl ?_
  refine r_aload_n k_124_7 rfl ?_
  refine r_iload_n k_124_8 rfl ?_
  refine r_iconst k_124_9 ci_3 ?_
  refine r_callv3 m_124 k_124_10 cl_8_92 m_122 (by decide) rfl rfl (Nat.le_of_ble_eq_true rfl) (Nat.le_of_ble_eq_true rfl) rfl rfl ?_
  refine s_122 (c := c) (t := 3) hc (by decide) ?_
  refine r_istore_n k_124_13 rfl ?_
  refine r_iload_n k_124_14 rfl ?_
  refine r_if_ge k_124_15 rfl (fun c_15 => ?_) (fun c_15 => ?_)
  · refine r_iload_n k_124_22 rfl ?_
    refine r_if_ge k_124_23 rfl (fun c_23 => ?_) (fun c_23 => ?_)
    · refine r_iload_n k_124_30 rfl ?_
      refine r_iload_n k_124_31 rfl ?_
      refine r_icmp_ge k_124_32 rfl (fun c_32 => ?_) (fun c_32 => ?_)
      · refine r_iload_n k_124_39 rfl ?_
        refine r_istore k_124_40 rfl ?_
        refine r_iload k_124_42 rfl ?_
        refine r_if_ge k_124_44 rfl (fun c_44 => ?_) (fun c_44 => ?_)
        · refine r_iload k_124_53 rfl ?_
          refine r_iconst k_124_55 ci_1 ?_
          refine r_isub k_124_56 ?_
          exact hm_T.ret m_124 k_124_57 rfl (by first | (simp only [hm_re, hm_re0, c_15, c_23, c_32, c_44, and_self, not_true_eq_false, not_false_eq_true, ↓reduceIte] at hQ; exact hQ) | contradiction)
        · refine r_sipush k_124_47 cs_399 ?_
          refine r_goto k_124_50 rfl ?_
          exact hm_T.ret m_124 k_124_57 rfl (by first | (simp only [hm_re, hm_re0, c_15, c_23, c_32, c_44, and_self, not_true_eq_false, not_false_eq_true, ↓reduceIte] at hQ; exact hQ) | contradiction)
      · refine r_iload_n k_124_35 rfl ?_
        refine r_goto k_124_36 rfl ?_
        refine r_istore k_124_40 rfl ?_
        refine r_iload k_124_42 rfl ?_
        refine r_if_ge k_124_44 rfl (fun c_44 => ?_) (fun c_44 => ?_)
        · refine r_iload k_124_53 rfl ?_
          refine r_iconst k_124_55 ci_1 ?_
          refine r_isub k_124_56 ?_
          exact hm_T.ret m_124 k_124_57 rfl (by first | (simp only [hm_re, hm_re0, c_15, c_23, c_32, c_44, and_self, not_true_eq_false, not_false_eq_true, ↓reduceIte] at hQ; exact hQ) | contradiction)
        · refine r_sipush k_124_47 cs_399 ?_
          refine r_goto k_124_50 rfl ?_
          exact hm_T.ret m_124 k_124_57 rfl (by first | (simp only [hm_re, hm_re0, c_15, c_23, c_32, c_44, and_self, not_true_eq_false, not_false_eq_true, ↓reduceIte] at hQ; exact hQ) | contradiction)
    · refine r_iload_n k_124_26 rfl ?_
      refine r_goto k_124_27 rfl ?_
      refine r_istore k_124_40 rfl ?_
      refine r_iload k_124_42 rfl ?_
      refine r_if_ge k_124_44 rfl (fun c_44 => ?_) (fun c_44 => ?_)
      · refine r_iload k_124_53 rfl ?_
        refine r_iconst k_124_55 ci_1 ?_
        refine r_isub k_124_56 ?_
        exact hm_T.ret m_124 k_124_57 rfl (by first | (simp only [hm_re, hm_re0, c_15, c_23, c_44, and_self, not_true_eq_false, not_false_eq_true, ↓reduceIte] at hQ; exact hQ) | contradiction)
      · refine r_sipush k_124_47 cs_399 ?_
        refine r_goto k_124_50 rfl ?_
        exact hm_T.ret m_124 k_124_57 rfl (by first | (simp only [hm_re, hm_re0, c_15, c_23, c_44, and_self, not_true_eq_false, not_false_eq_true, ↓reduceIte] at hQ; exact hQ) | contradiction)
  · refine r_iload_n k_124_18 rfl ?_
    refine r_goto k_124_19 rfl ?_
    refine r_istore k_124_40 rfl ?_
    refine r_iload k_124_42 rfl ?_
    refine r_if_ge k_124_44 rfl (fun c_44 => ?_) (fun c_44 => ?_)
    · refine r_iload k_124_53 rfl ?_
      refine r_iconst k_124_55 ci_1 ?_
      refine r_isub k_124_56 ?_
      exact hm_T.ret m_124 k_124_57 rfl (by first | (simp only [hm_re, hm_re0, c_15, c_44, and_self, not_true_eq_false, not_false_eq_true, ↓reduceIte] at hQ; exact hQ) | contradiction)
    · refine r_sipush k_124_47 cs_399 ?_
      refine r_goto k_124_50 rfl ?_
      exact hm_T.ret m_124 k_124_57 rfl (by first | (simp only [hm_re, hm_re0, c_15, c_44, and_self, not_true_eq_false, not_false_eq_true, ↓reduceIte] at hQ; exact hQ) | contradiction)
set_option maxRecDepth 20000 in
theorem l_123 {d n s : Nat} {m : hm_M} {h : Nat → Option va_E} {Q : Option Value → hm_H → Prop} {nc : Nat} (hn : m 9 0 = nI nc) (hnc : nc ≤ 16) {hour : Int32} (hQ : Q (some (.int (nI (hm_cnt (fun c => decide (¬ m 15 (4 * c + 0) < 0) && decide ((m 15 (4 * c + 0)).toInt ≤ hour.toInt ∧ hour.toInt ≤ (hm_re (m 15 (4 * c + 2)) (m 15 (4 * c + 3))).toInt)) nc)))) (hm_hM m h n s)) : ∀ (k c : Nat), c + k = nc → hm_T (d + 2) 123 4 [.ref 61, .int hour, .int (nI (hm_cnt (fun c => decide (¬ m 15 (4 * c + 0) < 0) && decide ((m 15 (4 * c + 0)).toInt ≤ hour.toInt ∧ hour.toInt ≤ (hm_re (m 15 (4 * c + 2)) (m 15 (4 * c + 3))).toInt)) c)), .int (nI c)] [] (hm_hM m h n s) Q := by
  intro k
  induction k with
  | zero =>
    intro c hc
    refine r_iload_n k_123_4 rfl ?_
    refine r_aload_n k_123_5 rfl ?_
    refine r_get m_123 k_123_6 fl_8_81 rfl rfl ?_
    rw [hn]
    refine r_icmp_ge k_123_9 rfl (fun c_9 => ?_) (fun z => absurd (nI_le (show nc ≤ c by omega) (by omega)) z)
    refine r_iload_n k_123_56 rfl ?_
    exact hm_T.ret m_123 k_123_57 rfl (by rw [show nc = c by omega] at hQ; exact hQ)
  | succ k ih =>
    intro c hc
    refine r_iload_n k_123_4 rfl ?_
    refine r_aload_n k_123_5 rfl ?_
    refine r_get m_123 k_123_6 fl_8_81 rfl rfl ?_
    rw [hn]
    refine r_icmp_ge k_123_9 rfl (fun z => absurd z (nI_ge (show c < nc by omega) (by omega))) (fun c_9 => ?_)
    refine r_iload_n k_123_12 rfl ?_
    refine r_aload_n k_123_13 rfl ?_
    refine r_iload_n k_123_14 rfl ?_
    refine r_iconst k_123_15 ci_0 ?_
    refine r_callv3 m_123 k_123_16 cl_8_92 m_122 (by decide) rfl rfl (Nat.le_of_ble_eq_true rfl) (Nat.le_of_ble_eq_true rfl) rfl rfl ?_
    refine s_122 (c := c) (t := 0) (by omega) (by decide) ?_
    refine r_if_lt k_123_19 rfl (fun c_19 => ?_) (fun c_19 => ?_)
    · refine r_iconst k_123_47 ci_0 ?_
      refine r_iadd k_123_48 ?_
      refine r_istore_n k_123_49 rfl ?_
      refine r_iincn k_123_50 rfl (nI_inc c) rfl ?_
      refine r_goto k_123_53 rfl ?_
      have e := ih (c + 1) (by omega)
      rw [hm_cnt_n (P := (fun c => decide (¬ m 15 (4 * c + 0) < 0) && decide ((m 15 (4 * c + 0)).toInt ≤ hour.toInt ∧ hour.toInt ≤ (hm_re (m 15 (4 * c + 2)) (m 15 (4 * c + 3))).toInt))) (by rw [decide_eq_false (fun z => z c_19), Bool.false_and])] at e
      exact e
    · refine r_iload_n k_123_22 rfl ?_
      refine r_i2l k_123_23 ?_
      refine r_aload_n k_123_24 rfl ?_
      refine r_iload_n k_123_25 rfl ?_
      refine r_iconst k_123_26 ci_0 ?_
      refine r_callv3 m_123 k_123_27 cl_8_92 m_122 (by decide) rfl rfl (Nat.le_of_ble_eq_true rfl) (Nat.le_of_ble_eq_true rfl) rfl rfl ?_
      refine s_122 (c := c) (t := 0) (by omega) (by decide) ?_
      refine r_i2l k_123_30 ?_
      refine r_aload_n k_123_31 rfl ?_
      refine r_iload_n k_123_32 rfl ?_
      refine r_callv2 m_123 k_123_33 cl_8_99 m_124 (by decide) rfl rfl (Nat.le_of_ble_eq_true rfl) (Nat.le_of_ble_eq_true rfl) rfl rfl ?_
      refine s_124 (c := c) (by omega) ?_
      refine r_i2l k_123_36 ?_
      refine r_calls3 m_123 k_123_37 cl_8_84 m_119 (by decide) rfl rfl (Nat.le_of_ble_eq_true rfl) (Nat.le_of_ble_eq_true rfl) ?_
      refine s_119 ?_
      rw [Int32.toInt_toInt64, Int32.toInt_toInt64, Int32.toInt_toInt64]
      refine r_if_eq k_123_40 rfl (fun c_40 => ?_) (fun c_40 => ?_)
      · refine r_iconst k_123_47 ci_0 ?_
        refine r_iadd k_123_48 ?_
        refine r_istore_n k_123_49 rfl ?_
        refine r_iincn k_123_50 rfl (nI_inc c) rfl ?_
        refine r_goto k_123_53 rfl ?_
        have e := ih (c + 1) (by omega)
        rw [hm_cnt_n (P := (fun c => decide (¬ m 15 (4 * c + 0) < 0) && decide ((m 15 (4 * c + 0)).toInt ≤ hour.toInt ∧ hour.toInt ≤ (hm_re (m 15 (4 * c + 2)) (m 15 (4 * c + 3))).toInt))) (by rw [decide_eq_false (hm_if0 c_40), Bool.and_false])] at e
        exact e
      · refine r_iconst k_123_43 ci_1 ?_
        refine r_goto k_123_44 rfl ?_
        refine r_iadd k_123_48 ?_
        refine r_istore_n k_123_49 rfl ?_
        refine r_iincn k_123_50 rfl (nI_inc c) rfl ?_
        refine r_goto k_123_53 rfl ?_
        have e := ih (c + 1) (by omega)
        rw [hm_cnt_y (P := (fun c => decide (¬ m 15 (4 * c + 0) < 0) && decide ((m 15 (4 * c + 0)).toInt ≤ hour.toInt ∧ hour.toInt ≤ (hm_re (m 15 (4 * c + 2)) (m 15 (4 * c + 3))).toInt))) (by rw [decide_eq_true c_19, decide_eq_true (hm_if1 c_40)]; rfl)] at e
        exact e
set_option maxRecDepth 20000 in
theorem s_123 {d n s : Nat} {m : hm_M} {h : Nat → Option va_E} {Q : Option Value → hm_H → Prop} {nc : Nat} (hn : m 9 0 = nI nc) (hnc : nc ≤ 16) {hour : Int32} (hQ : Q (some (.int (nI (hm_cnt (fun c => decide (¬ m 15 (4 * c + 0) < 0) && decide ((m 15 (4 * c + 0)).toInt ≤ hour.toInt ∧ hour.toInt ≤ (hm_re (m 15 (4 * c + 2)) (m 15 (4 * c + 3))).toInt)) nc)))) (hm_hM m h n s)) : hm_T (d + 2) 123 0 [.ref 61, .int hour, .retAddr 0, .retAddr 0] [] (hm_hM m h n s) Q := by
  refine r_iconst k_123_0 ci_0 ?_
  refine r_istore_n k_123_1 rfl ?_
  refine r_iconst k_123_2 ci_0 ?_
  refine r_istore_n k_123_3 rfl ?_
  exact l_123 hn hnc hQ nc 0 (by omega)
set_option maxRecDepth 20000 in
theorem l_126 {d n s : Nat} {m : hm_M} {h : Nat → Option va_E} {Q : Option Value → hm_H → Prop} {hour : Int32} (hQ : Q (some (.int (hm_sg (fun k => m 1 k >>> ((hour - hour / nI 10 * nI 10) &&& 31) &&& nI 1) 3))) (hm_hM m h n s)) : ∀ (k c : Nat), c + k = 3 → hm_T d 126 4 [.ref 61, .int hour, .int (hm_sg (fun k => m 1 k >>> ((hour - hour / nI 10 * nI 10) &&& 31) &&& nI 1) c), .int (nI c)] [] (hm_hM m h n s) Q := by
  intro k
  induction k with
  | zero =>
    intro c hc
    refine r_iload_n k_126_4 rfl ?_
    refine r_iconst k_126_5 ci_3 ?_
    refine r_icmp_ge k_126_6 rfl (fun c_6 => ?_) (fun z => absurd (nI_le (show 3 ≤ c by omega) (by omega)) z)
    refine r_iload_n k_126_31 rfl ?_
    exact hm_T.ret m_126 k_126_32 rfl (by rw [show 3 = c by omega] at hQ; exact hQ)
  | succ k ih =>
    intro c hc
    refine r_iload_n k_126_4 rfl ?_
    refine r_iconst k_126_5 ci_3 ?_
    refine r_icmp_ge k_126_6 rfl (fun z => absurd z (nI_ge (show c < 3 by omega) (by omega))) (fun c_6 => ?_)
    refine r_iload_n k_126_9 rfl ?_
    refine r_aload_n k_126_10 rfl ?_
    refine r_get m_126 k_126_11 fl_8_13 rfl rfl ?_
    refine r_iload_n k_126_14 rfl ?_
    refine r_ialdn (k := c) k_126_15 rfl (Or.inl rfl) rfl (by omega) (by decide) ?_
    refine r_iload_n k_126_16 rfl ?_
    refine r_bipush k_126_17 cb_10 ?_
    refine r_irem k_126_19 (by decide) ?_
    refine r_ishr k_126_20 ?_
    refine r_iconst k_126_21 ci_1 ?_
    refine r_iand k_126_22 ?_
    refine r_iadd k_126_23 ?_
    refine r_istore_n k_126_24 rfl ?_
    refine r_iincn k_126_25 rfl (nI_inc c) rfl ?_
    refine r_goto k_126_28 rfl ?_
    exact ih (c + 1) (by omega)
set_option maxRecDepth 20000 in
theorem s_126 {d n s : Nat} {m : hm_M} {h : Nat → Option va_E} {Q : Option Value → hm_H → Prop} {hour : Int32} (hQ : Q (some (.int (hm_sg (fun k => m 1 k >>> ((hour - hour / nI 10 * nI 10) &&& 31) &&& nI 1) 3))) (hm_hM m h n s)) : hm_T d 126 0 [.ref 61, .int hour, .retAddr 0, .retAddr 0] [] (hm_hM m h n s) Q := by
  refine r_iconst k_126_0 ci_0 ?_
  refine r_istore_n k_126_1 rfl ?_
  refine r_iconst k_126_2 ci_0 ?_
  refine r_istore_n k_126_3 rfl ?_
  exact l_126 hQ 3 0 (by omega)
