/-! THE LAW: its loop, its start -/
theorem hw_sub5 (L : Nat) (hL : L ≤ 2560) : (nI L - nI 5).toInt = (L : Int) - 5 := by
  by_cases h : 5 ≤ L
  · rw [hm_nIsub (show 5 + (L - 5) = L by omega), nI_toInt (by omega)]
    omega
  · match L, h with
    | 0, _ => decide
    | 1, _ => decide
    | 2, _ => decide
    | 3, _ => decide
    | 4, _ => decide
    | L + 5, h => omega
set_option maxRecDepth 20000 in
theorem l_174 {L : Nat} {xs : Nat → Int32} {Q : Option Value → hm_H → Prop} (hL : L ≤ 2560) (hQ : ∀ hp2, hw_S L xs hp2 → Q (some (.int (nI 1))) hp2) : ∀ (r i : Nat) (hp : hm_H), i ≤ 2560 → L < i + 5 * (r + 1) → hw_S L xs hp → hm_T 1000 174 18 [.ref 0, .ref 4, .ref 61, .int (nI i)] [] hp Q := by
  intro r
  induction r with
  | zero =>
    intro i hp hi hr S
    obtain ⟨h0, fs, h4⟩ := S.at
    refine r_iload_n k_174_18 rfl ?_
    refine r_aload_n k_174_19 rfl ?_
    refine r_alen (v := nI L) k_174_20 h0 rfl ?_
    refine r_iconst k_174_21 ci_5 ?_
    refine r_isub k_174_22 ?_
    refine r_icmp_gt k_174_23 rfl (fun _ => ?_) (fun z => absurd (by rw [Int32.lt_iff_toInt_lt, hw_sub5 L hL, nI_toInt (by omega)]; omega) z)
    refine r_iconst k_174_925 ci_1 ?_
    exact hm_T.ret m_174 k_174_926 rfl (hQ hp S)
  | succ r ih =>
    intro i hp hi hr S
    obtain ⟨h0, fs, h4⟩ := S.at
    refine r_iload_n k_174_18 rfl ?_
    refine r_aload_n k_174_19 rfl ?_
    refine r_alen (v := nI L) k_174_20 h0 rfl ?_
    refine r_iconst k_174_21 ci_5 ?_
    refine r_isub k_174_22 ?_
    refine r_icmp_gt k_174_23 rfl (fun _ => ?_) (fun z => ?_)
    · refine r_iconst k_174_925 ci_1 ?_
      exact hm_T.ret m_174 k_174_926 rfl (hQ hp S)
    · rw [Int32.lt_iff_toInt_lt, hw_sub5 L hL, nI_toInt (by omega)] at z
      have hi5 : i + 5 ≤ L := by omega
      have K : ∀ hp2, hw_S L xs hp2 → hm_T 1000 174 919 [.ref 0, .ref 4, .ref 61, .int (nI i)] [] hp2 Q := fun hp2 S2 => by
        refine r_iincn (v := nI (i + 5)) k_174_919 rfl (by rw [ci_5]; exact nI_add i 5) rfl ?_
        refine r_goto k_174_922 rfl ?_
        exact ih (i + 5) hp2 (by omega) (by omega) S2
      refine r_aload_n k_174_26 rfl ?_
      refine r_iload_n k_174_27 rfl ?_
      refine r_ialdn (k := i) k_174_28 h0 (Or.inr rfl) rfl (by omega) (by omega) ?_
      refine r_bipush k_174_29 cb_31 ?_
      refine r_iand k_174_31 ?_
      generalize xs i &&& nI 31 = x
      by_cases c_32 : x.toInt < 0 ∨ 22 < x.toInt
      · refine r_tableOut k_174_32 c_32 rfl ?_
        exact K hp S
      · have hs : x.toInt = 0 ∨ x.toInt = 1 ∨ x.toInt = 2 ∨ x.toInt = 3 ∨ x.toInt = 4 ∨ x.toInt = 5 ∨ x.toInt = 6 ∨ x.toInt = 7 ∨ x.toInt = 8 ∨ x.toInt = 9 ∨ x.toInt = 10 ∨ x.toInt = 11 ∨ x.toInt = 12 ∨ x.toInt = 13 ∨ x.toInt = 14 ∨ x.toInt = 15 ∨ x.toInt = 16 ∨ x.toInt = 17 ∨ x.toInt = 18 ∨ x.toInt = 19 ∨ x.toInt = 20 ∨ x.toInt = 21 ∨ x.toInt = 22 := by omega
        rcases hs with hs | hs | hs | hs | hs | hs | hs | hs | hs | hs | hs | hs | hs | hs | hs | hs | hs | hs | hs | hs | hs | hs | hs
        · refine r_tableIn k_174_32 c_32 (by rw [hs]; rfl) rfl ?_
          exact c_174_house hL hi5 S K
        · refine r_tableIn k_174_32 c_32 (by rw [hs]; rfl) rfl ?_
          exact c_174_open hL hi5 S K
        · refine r_tableIn k_174_32 c_32 (by rw [hs]; rfl) rfl ?_
          exact c_174_bearer hL hi5 S K
        · refine r_tableIn k_174_32 c_32 (by rw [hs]; rfl) rfl ?_
          exact c_174_feed hL hi5 S K
        · refine r_tableIn k_174_32 c_32 (by rw [hs]; rfl) rfl ?_
          exact c_174_law hL hi5 S K
        · refine r_tableIn k_174_32 c_32 (by rw [hs]; rfl) rfl ?_
          exact c_174_place hL hi5 S K
        · refine r_tableIn k_174_32 c_32 (by rw [hs]; rfl) rfl ?_
          exact c_174_says hL hi5 S K
        · refine r_tableIn k_174_32 c_32 (by rw [hs]; rfl) rfl ?_
          exact c_174_casus hL hi5 S K
        · refine r_tableIn k_174_32 c_32 (by rw [hs]; rfl) rfl ?_
          exact c_174_paper hL hi5 S K
        · refine r_tableIn k_174_32 c_32 (by rw [hs]; rfl) rfl ?_
          exact c_174_may hL hi5 S K
        · refine r_tableIn k_174_32 c_32 (by rw [hs]; rfl) rfl ?_
          exact c_174_promise hL hi5 S K
        · refine r_tableIn k_174_32 c_32 (by rw [hs]; rfl) rfl ?_
          exact c_174_earliest hL hi5 S K
        · refine r_tableIn k_174_32 c_32 (by rw [hs]; rfl) rfl ?_
          exact c_174_undo hL hi5 S K
        · refine r_tableIn k_174_32 c_32 (by rw [hs]; rfl) rfl ?_
          exact c_174_promised hL hi5 S K
        · refine r_tableIn k_174_32 c_32 (by rw [hs]; rfl) rfl ?_
          exact c_174_taken hL hi5 S K
        · refine r_tableIn k_174_32 c_32 (by rw [hs]; rfl) rfl ?_
          exact c_174_count hL hi5 S K
        · refine r_tableIn k_174_32 c_32 (by rw [hs]; rfl) rfl ?_
          exact c_174_plan hL hi5 S K
        · refine r_tableIn k_174_32 c_32 (by rw [hs]; rfl) rfl ?_
          exact c_174_pay hL hi5 S K
        · refine r_tableIn k_174_32 c_32 (by rw [hs]; rfl) rfl ?_
          exact c_174_rate hL hi5 S K
        · refine r_tableIn k_174_32 c_32 (by rw [hs]; rfl) rfl ?_
          exact c_174_days hL hi5 S K
        · refine r_tableIn k_174_32 c_32 (by rw [hs]; rfl) rfl ?_
          exact c_174_tie hL hi5 S K
        · refine r_tableIn k_174_32 c_32 (by rw [hs]; rfl) rfl ?_
          exact c_174_settle hL hi5 S K
        · refine r_tableIn k_174_32 c_32 (by rw [hs]; rfl) rfl ?_
          exact c_174_planned hL hi5 S K
theorem hw_seg0 {a : Nat} {h : Nat → Option va_E} : hm_seg a [] h = h := funext fun j => hm_seg_out (by show j < a ∨ a + 0 ≤ j; omega)
theorem hw_R0 : hw_R hc_k0 hc_ad0 hm_m0 0 0 0 := by
  have m4 : ∀ x, x < 80 → hm_m0 4 x = if x % 5 = 1 ∨ x % 5 = 2 then -1 else nI 0 := fun x hx => by
    show hm_f0 80 0 (fun _ => 0) x = _
    rw [hw_f0, if_pos (by omega)]
  refine ⟨⟨fun j hj => ?_, fun j hj => ?_⟩, ⟨fun c hc => absurd hc (by omega), fun j hj => absurd hj (by omega), fun c hc => absurd hc (by omega), ⟨3, rfl, by decide, fun hh _ => Nat.zero_le _⟩, fun hh h4 => ⟨rfl, rfl, rfl, rfl, rfl, rfl⟩, fun hh h4 => True.intro, rfl⟩, fun c hc => absurd hc (by omega), fun f hf t ht i hi => ?_, ⟨by decide, fun i hi => absurd hi (by omega), fun c hc => absurd hc (by omega), fun c hc => absurd hc (by omega)⟩, ⟨rfl, by decide, rfl, by decide, rfl, ⟨0, by decide, rfl, fun i hi => absurd hi (by omega)⟩, fun c _ => rfl⟩, fun f t hf ht => ?_, fun c hc => absurd hc (by omega), ⟨fun q hq => absurd hq (by omega), fun c hc => absurd hc (by omega), rfl⟩⟩
  · have hj2 := of_decide_eq_true hj
    rcases hj2 with rfl | rfl | rfl | rfl | rfl | rfl | rfl | rfl | rfl | rfl | rfl | rfl | rfl <;> rfl
  · have hj2 := of_decide_eq_true hj
    rcases hj2 with rfl | rfl | rfl | rfl | rfl <;> rfl
  · have e1 : hc_ad0 0 f = f + 1 := by
      show (if f = 4 then 0 else f + 1) = _
      rw [if_neg (by omega)]
    have e2 : hc_k0 (60 + 4 * hc_ad0 0 f + t) = hc_r0 := by
      rw [e1]
      unfold hc_k0
      rw [if_neg (by omega), if_neg (by omega), if_neg (by omega), if_pos (by omega)]
    rw [e2, m4 _ (by omega)]
    match i, hi with
    | 0, _ => rw [if_neg (by omega)]; rfl
    | 1, _ => rw [if_pos (by omega)]; rfl
    | 2, _ => rw [if_pos (by omega)]; rfl
    | 3, _ => rw [if_neg (by omega)]; rfl
    | 4, _ => rw [if_neg (by omega)]; rfl
    | i + 5, h => omega
  · rw [m4 _ (by omega), m4 _ (by omega), if_pos (by omega), if_pos (by omega)]
    exact ⟨Or.inl rfl, Or.inl rfl⟩
theorem hw_X0s (L : Nat) (xs : Nat → Int32) : hm_D hc_k0 hc_ad0 (fun _ => (0, 0)) 0 0 80 (hm_h0 L xs).1 := by
  refine ⟨fun j hj => absurd rfl hj, fun i j hi => absurd rfl hi, fun c hc => absurd hc (by omega), fun q hq => absurd hq (by omega), fun j hj => absurd rfl hj, rfl, by decide, rfl, by decide, Or.inl ⟨rfl, rfl, rfl, rfl⟩, Or.inl ⟨rfl, rfl, rfl, rfl⟩, fun i hi => ?_, fun i j hi hj h => ?_, rfl, rfl, rfl, fun c hc => absurd hc (by omega)⟩
  · show (if i = 4 then 0 else i + 1) < 5
    split <;> omega
  · have h2 : (if i = 4 then 0 else i + 1) = (if j = 4 then 0 else j + 1) := h
    split at h2 <;> split at h2 <;> omega
set_option maxRecDepth 20000 in
theorem s_174 {L : Nat} {xs : Nat → Int32} {Q : Option Value → hm_H → Prop} (hL : L ≤ 2560) (hQ : ∀ hp2, hw_S L xs hp2 → Q (some (.int (nI 1))) hp2) : hm_T 1000 174 0 [.ref 0, .retAddr 0, .retAddr 0, .retAddr 0] [] (hm_h0 L xs) Q := by
  have e1 : hm_push (hm_h0 L xs) (.inr (7, hm_df 7)) (hm_df 7).length = (hm_seg 4 ([] ++ [.inr (7, [.null, .null, .null, .null, .null, .null, .null, .null, .null, .int 0, .int 0, .null, .int 0, .int 0])]) (hm_h0 L xs).1, 1, 14) := by
    have q := pS (L := []) (R := []) (h := (hm_h0 L xs).1) (n := 0) (s := 0) (e := .inr (7, hm_df 7)) (m := 14) rfl
    rw [List.nil_append, hw_seg0] at q
    rw [hm_df_7] at q ⊢
    exact q
  refine r_new m_174 k_174_0 nl_19_7 (by decide) e1 ?_
  refine r_dup k_174_3 rfl ?_
  refine r_calli1 m_174 k_174_4 cl_19_9 m_0 (by decide) rfl rfl (Nat.le_of_ble_eq_true rfl) (Nat.le_of_ble_eq_true rfl) ?_
  refine s_0 ?_
  refine r_astore_n k_174_7 rfl ?_
  have e2 : hm_push (hm_hC hc_k0 hc_ad0 hc_w0 (hm_h0 L xs).1 57 (14 + 2948)) (.inr (8, hm_df 8)) (hm_df 8).length = (hm_seg 61 [.inr (8, [.null, .null, .int 0, .null, .null, .null, .null, .int 0, .int 0, .int 0, .null, .null, .null, .null, .null, .null, .null, .int 0, .int 0, .null, .null, .null, .null, .int 0, .int 0, .int 0, .null, .null, .null, .null, .null])] (hm_seg 4 (hm_cC hc_k0 hc_ad0 hc_w0) (hm_h0 L xs).1), 58, 14 + 2948 + 31) := by
    have q := pT (R := []) (h := hm_seg 4 (hm_cC hc_k0 hc_ad0 hc_w0) (hm_h0 L xs).1) (n := 57) (s := 14 + 2948) (e := .inr (8, hm_df 8)) (m := 31) rfl
    rw [List.nil_append, hw_seg0] at q
    rw [hm_df_8] at q ⊢
    exact q
  refine r_new m_174 k_174_8 nl_19_10 (by decide) e2 ?_
  refine r_dup k_174_11 rfl ?_
  refine r_calli1 m_174 k_174_12 cl_19_12 m_117 (by decide) rfl rfl (Nat.le_of_ble_eq_true rfl) (Nat.le_of_ble_eq_true rfl) ?_
  refine s_117 ?_
  refine r_astore_n k_174_15 rfl ?_
  refine r_iconst k_174_16 ci_0 ?_
  refine r_istore_n k_174_17 rfl ?_
  exact l_174 hL hQ 513 0 _ (by omega) (by omega) (hw_fin0 (nb := 0) rfl (hw_X0s L xs) hw_R0 ⟨by decide, by decide, by decide⟩)
theorem hm_pure (L : Nat) (xs : Nat → Int32) (hL : L ≤ 2560) : ∃ (f : Nat) (hp2 : hm_H), hm_run f 1000 174 0 [.ref 0, .retAddr 0, .retAddr 0, .retAddr 0] [] (hm_h0 L xs) = some (some (.int 1), hp2) ∧ hp2.2.1 ≤ 600000 ∧ hp2.2.2 ≤ 7302250 := by
  obtain ⟨f, r, hp2, h1, h2, h3⟩ := s_174 (L := L) (xs := xs) (Q := fun r hp2 => r = some (.int 1) ∧ hw_S L xs hp2) hL (fun hp2 S => ⟨rfl, S⟩)
  rw [h2] at h1
  exact ⟨f, hp2, h1, h3.room⟩
