set_option maxRecDepth 20000 in
theorem s_31 {d : Nat} {hp : hm_H} {Q : Option Value → hm_H → Prop} {c : Int32} (hQ : Q (some (.int (hm_so c))) hp) : hm_T d 31 0 [.int c] [] hp Q := by
  refine r_iload_n k_31_0 rfl ?_
  by_cases h98 : c = nI 98
  · subst h98
    refine r_lookup (off := 47) (t := 48) k_31_1 (by decide) (by rw [show (nI 98).toInt = 98 by decide +kernel]; rfl) rfl ?_
    refine r_iconst k_31_48 ci_2 ?_
    exact hm_T.ret m_31 k_31_49 rfl (by rw [show hm_so (nI 98) = nI 2 by decide +kernel] at hQ; exact hQ)
  by_cases h102 : c = nI 102
  · subst h102
    refine r_lookup (off := 43) (t := 44) k_31_1 (by decide) (by rw [show (nI 102).toInt = 102 by decide +kernel]; rfl) rfl ?_
    refine r_iconst k_31_44 ci_0 ?_
    exact hm_T.ret m_31 k_31_45 rfl (by rw [show hm_so (nI 102) = nI 0 by decide +kernel] at hQ; exact hQ)
  by_cases h103 : c = nI 103
  · subst h103
    refine r_lookup (off := 49) (t := 50) k_31_1 (by decide) (by rw [show (nI 103).toInt = 103 by decide +kernel]; rfl) rfl ?_
    refine r_iconst k_31_50 ci_3 ?_
    exact hm_T.ret m_31 k_31_51 rfl (by rw [show hm_so (nI 103) = nI 3 by decide +kernel] at hQ; exact hQ)
  by_cases h115 : c = nI 115
  · subst h115
    refine r_lookup (off := 45) (t := 46) k_31_1 (by decide) (by rw [show (nI 115).toInt = 115 by decide +kernel]; rfl) rfl ?_
    refine r_iconst k_31_46 ci_1 ?_
    exact hm_T.ret m_31 k_31_47 rfl (by rw [show hm_so (nI 115) = nI 1 by decide +kernel] at hQ; exact hQ)
  have t98 : ¬ (98 : Int) = c.toInt := fun z => h98 (Int32.toInt_inj.mp (z.symm.trans (by decide +kernel)))
  have t102 : ¬ (102 : Int) = c.toInt := fun z => h102 (Int32.toInt_inj.mp (z.symm.trans (by decide +kernel)))
  have t103 : ¬ (103 : Int) = c.toInt := fun z => h103 (Int32.toInt_inj.mp (z.symm.trans (by decide +kernel)))
  have t115 : ¬ (115 : Int) = c.toInt := fun z => h115 (Int32.toInt_inj.mp (z.symm.trans (by decide +kernel)))
  refine r_lookup (off := 51) (t := 52) k_31_1 (by decide) (by show (if (98 : Int) = c.toInt then (47 : Int) else if (102 : Int) = c.toInt then 43 else if (103 : Int) = c.toInt then 49 else if (115 : Int) = c.toInt then 45 else 51) = 51; rw [if_neg t98, if_neg t102, if_neg t103, if_neg t115]) rfl ?_
  refine r_iconst k_31_52 ci_m1 ?_
  exact hm_T.ret m_31 k_31_53 rfl (by unfold hm_so at hQ; rw [if_pos h102, if_pos h115, if_pos h98, if_pos h103] at hQ; exact hQ)
def hc_io (c : Int32) : Int32 := if 65 ≤ c.toInt ∧ c.toInt ≤ 70 then c - nI 65 else if c = nI 60 then nI 6 else if c = nI 62 then nI 7 else if c = nI 33 then nI 8 else if hm_so c = -1 then -1 else nI 9 + hm_so c
set_option maxRecDepth 20000 in
theorem s_34 {d : Nat} {hp : hm_H} {Q : Option Value → hm_H → Prop} {c : Int32} (hQ : Q (some (.int (hc_io c))) hp) : hm_T (d + 1) 34 0 [.int c, .retAddr 0] [] hp Q := by
  have e65 : (nI 65).toInt = 65 := by decide +kernel
  have e71 : (nI 71).toInt = 71 := by decide +kernel
  refine r_iload_n k_34_0 rfl ?_
  refine r_bipush k_34_1 cb_65 ?_
  refine r_icmp_lt k_34_3 rfl (fun c_3 => ?_) (fun c_3 => ?_)
  · have hr : ¬ (65 ≤ c.toInt ∧ c.toInt ≤ 70) := fun z => by have := Int32.lt_iff_toInt_lt.mp c_3; omega
    by_cases h33 : c = nI 33
    · subst h33
      refine r_iload_n k_34_17 rfl ?_
      refine r_lookup (off := 40) (t := 58) k_34_18 (by decide) (by rw [show (nI 33).toInt = 33 by decide +kernel]; rfl) rfl ?_
      refine r_bipush k_34_58 cb_8 ?_
      exact hm_T.ret m_34 k_34_60 rfl (by rw [show hc_io (nI 33) = nI 8 by decide +kernel] at hQ; exact hQ)
    by_cases h60 : c = nI 60
    · subst h60
      refine r_iload_n k_34_17 rfl ?_
      refine r_lookup (off := 34) (t := 52) k_34_18 (by decide) (by rw [show (nI 60).toInt = 60 by decide +kernel]; rfl) rfl ?_
      refine r_bipush k_34_52 cb_6 ?_
      exact hm_T.ret m_34 k_34_54 rfl (by rw [show hc_io (nI 60) = nI 6 by decide +kernel] at hQ; exact hQ)
    by_cases h62 : c = nI 62
    · subst h62
      refine r_iload_n k_34_17 rfl ?_
      refine r_lookup (off := 37) (t := 55) k_34_18 (by decide) (by rw [show (nI 62).toInt = 62 by decide +kernel]; rfl) rfl ?_
      refine r_bipush k_34_55 cb_7 ?_
      exact hm_T.ret m_34 k_34_57 rfl (by rw [show hc_io (nI 62) = nI 7 by decide +kernel] at hQ; exact hQ)
    have t33 : ¬ (33 : Int) = c.toInt := fun z => h33 (Int32.toInt_inj.mp (z.symm.trans (by decide +kernel)))
    have t60 : ¬ (60 : Int) = c.toInt := fun z => h60 (Int32.toInt_inj.mp (z.symm.trans (by decide +kernel)))
    have t62 : ¬ (62 : Int) = c.toInt := fun z => h62 (Int32.toInt_inj.mp (z.symm.trans (by decide +kernel)))
    refine r_iload_n k_34_17 rfl ?_
    refine r_lookup (off := 43) (t := 61) k_34_18 (by decide) (by show (if (33 : Int) = c.toInt then (40 : Int) else if (60 : Int) = c.toInt then 34 else if (62 : Int) = c.toInt then 37 else 43) = 43; rw [if_neg t33, if_neg t60, if_neg t62]) rfl ?_
    refine r_iload_n k_34_61 rfl ?_
    refine r_calls1 m_34 k_34_62 cl_3_46 m_31 (by decide) rfl rfl (Nat.le_of_ble_eq_true rfl) (Nat.le_of_ble_eq_true rfl) ?_
    refine s_31 ?_
    refine r_istore_n k_34_65 rfl ?_
    refine r_iload_n k_34_66 rfl ?_
    refine r_iconst k_34_67 ci_m1 ?_
    refine r_icmp_ne k_34_68 rfl (fun c_68 => ?_) (fun c_68 => ?_)
    · refine r_bipush k_34_75 cb_9 ?_
      refine r_iload_n k_34_77 rfl ?_
      refine r_iadd k_34_78 ?_
      exact hm_T.ret m_34 k_34_79 rfl (by unfold hc_io at hQ; rw [if_neg hr, if_neg h60, if_neg h62, if_neg h33, if_neg c_68] at hQ; exact hQ)
    · have c_68 := Decidable.of_not_not c_68
      refine r_iconst k_34_71 ci_m1 ?_
      refine r_goto k_34_72 rfl ?_
      exact hm_T.ret m_34 k_34_79 rfl (by unfold hc_io at hQ; rw [if_neg hr, if_neg h60, if_neg h62, if_neg h33, if_pos c_68] at hQ; exact hQ)
  · refine r_iload_n k_34_6 rfl ?_
    refine r_bipush k_34_7 cb_71 ?_
    refine r_icmp_ge k_34_9 rfl (fun c_9 => ?_) (fun c_9 => ?_)
    · have hr : ¬ (65 ≤ c.toInt ∧ c.toInt ≤ 70) := fun z => by have := Int32.le_iff_toInt_le.mp c_9; omega
      by_cases h33 : c = nI 33
      · subst h33
        refine r_iload_n k_34_17 rfl ?_
        refine r_lookup (off := 40) (t := 58) k_34_18 (by decide) (by rw [show (nI 33).toInt = 33 by decide +kernel]; rfl) rfl ?_
        refine r_bipush k_34_58 cb_8 ?_
        exact hm_T.ret m_34 k_34_60 rfl (by rw [show hc_io (nI 33) = nI 8 by decide +kernel] at hQ; exact hQ)
      by_cases h60 : c = nI 60
      · subst h60
        refine r_iload_n k_34_17 rfl ?_
        refine r_lookup (off := 34) (t := 52) k_34_18 (by decide) (by rw [show (nI 60).toInt = 60 by decide +kernel]; rfl) rfl ?_
        refine r_bipush k_34_52 cb_6 ?_
        exact hm_T.ret m_34 k_34_54 rfl (by rw [show hc_io (nI 60) = nI 6 by decide +kernel] at hQ; exact hQ)
      by_cases h62 : c = nI 62
      · subst h62
        refine r_iload_n k_34_17 rfl ?_
        refine r_lookup (off := 37) (t := 55) k_34_18 (by decide) (by rw [show (nI 62).toInt = 62 by decide +kernel]; rfl) rfl ?_
        refine r_bipush k_34_55 cb_7 ?_
        exact hm_T.ret m_34 k_34_57 rfl (by rw [show hc_io (nI 62) = nI 7 by decide +kernel] at hQ; exact hQ)
      have t33 : ¬ (33 : Int) = c.toInt := fun z => h33 (Int32.toInt_inj.mp (z.symm.trans (by decide +kernel)))
      have t60 : ¬ (60 : Int) = c.toInt := fun z => h60 (Int32.toInt_inj.mp (z.symm.trans (by decide +kernel)))
      have t62 : ¬ (62 : Int) = c.toInt := fun z => h62 (Int32.toInt_inj.mp (z.symm.trans (by decide +kernel)))
      refine r_iload_n k_34_17 rfl ?_
      refine r_lookup (off := 43) (t := 61) k_34_18 (by decide) (by show (if (33 : Int) = c.toInt then (40 : Int) else if (60 : Int) = c.toInt then 34 else if (62 : Int) = c.toInt then 37 else 43) = 43; rw [if_neg t33, if_neg t60, if_neg t62]) rfl ?_
      refine r_iload_n k_34_61 rfl ?_
      refine r_calls1 m_34 k_34_62 cl_3_46 m_31 (by decide) rfl rfl (Nat.le_of_ble_eq_true rfl) (Nat.le_of_ble_eq_true rfl) ?_
      refine s_31 ?_
      refine r_istore_n k_34_65 rfl ?_
      refine r_iload_n k_34_66 rfl ?_
      refine r_iconst k_34_67 ci_m1 ?_
      refine r_icmp_ne k_34_68 rfl (fun c_68 => ?_) (fun c_68 => ?_)
      · refine r_bipush k_34_75 cb_9 ?_
        refine r_iload_n k_34_77 rfl ?_
        refine r_iadd k_34_78 ?_
        exact hm_T.ret m_34 k_34_79 rfl (by unfold hc_io at hQ; rw [if_neg hr, if_neg h60, if_neg h62, if_neg h33, if_neg c_68] at hQ; exact hQ)
      · have c_68 := Decidable.of_not_not c_68
        refine r_iconst k_34_71 ci_m1 ?_
        refine r_goto k_34_72 rfl ?_
        exact hm_T.ret m_34 k_34_79 rfl (by unfold hc_io at hQ; rw [if_neg hr, if_neg h60, if_neg h62, if_neg h33, if_pos c_68] at hQ; exact hQ)
    · refine r_iload_n k_34_12 rfl ?_
      refine r_bipush k_34_13 cb_65 ?_
      refine r_isub k_34_15 ?_
      exact hm_T.ret m_34 k_34_16 rfl (by unfold hc_io at hQ; rw [if_pos (by have h1 := Int32.le_iff_toInt_le.mp (Int32.not_lt.mp c_3); have h2 := Int32.lt_iff_toInt_lt.mp (Int32.not_le.mp c_9); omega)] at hQ; exact hQ)
set_option maxRecDepth 20000 in
theorem l_8 {d n s : Nat} {k : hm_M} {ad : hm_AD} {w : hm_W} {h : Nat → Option va_E} {Q : Option Value → hm_H → Prop} {q : Nat} (hq : q < 5) {t : Nat} (ht : t < 4) (hQ : ∀ f : Nat → Int32, (∀ i, i < 5 → f i = nI 0) → Q none (hm_hC (hm_uM k (60 + 4 * q + t) f) ad w h n s)) : ∀ (j x : Nat) (f : Nat → Int32), x + j = 5 → (∀ i, i < x → f i = nI 0) → hm_T d 8 5 [.ref (hm_lb q + 2 + t), .int (nI 0), .int (nI x), .int (nI 5)] [] (hm_hC (hm_uM k (60 + 4 * q + t) f) ad w h n s) Q := by
  intro j
  induction j with
  | zero =>
    intro x f hx hf
    refine r_iload_n k_8_5 rfl ?_
    refine r_iload_n k_8_6 rfl ?_
    refine r_icmp_ge k_8_7 rfl (fun c_7 => ?_) (fun z => absurd (nI_le (show 5 ≤ x by omega) (by omega)) z)
    exact hm_T.ret m_8 k_8_20 rfl (hQ f (fun i hi => hf i (by omega)))
  | succ j ih =>
    intro x f hx hf
    refine r_iload_n k_8_5 rfl ?_
    refine r_iload_n k_8_6 rfl ?_
    refine r_icmp_ge k_8_7 rfl (fun z => absurd z (nI_ge (show x < 5 by omega) (by omega))) (fun c_7 => ?_)
    refine r_aload_n k_8_10 rfl ?_
    refine r_iload_n k_8_11 rfl ?_
    refine r_iload_n k_8_12 rfl ?_
    refine r_iastn (k := x) k_8_13 ((rC_l2 (k := hm_uM k (60 + 4 * q + t) f) hq ht).trans (by rw [show hm_uM k (60 + 4 * q + t) f (60 + 4 * q + t) = f from if_pos rfl])) rfl rfl (by omega) (by decide) ((wC_law hq ht _).trans (by rw [hm_uM2])) ?_
    refine r_iincn k_8_14 rfl (nI_inc x) rfl ?_
    refine r_goto k_8_17 rfl ?_
    refine ih (x + 1) _ (by omega) (fun i hi => ?_)
    by_cases hix : i = x
    · exact if_pos hix
    · exact (if_neg hix).trans (hf i (by omega))
set_option maxRecDepth 20000 in
theorem s_8 {d n s : Nat} {k : hm_M} {ad : hm_AD} {w : hm_W} {h : Nat → Option va_E} {Q : Option Value → hm_H → Prop} {q : Nat} (hq : q < 5) {t : Nat} (ht : t < 4) (hQ : ∀ f : Nat → Int32, (∀ i, i < 5 → f i = nI 0) → Q none (hm_hC (hm_uM k (60 + 4 * q + t) f) ad w h n s)) : hm_T d 8 0 [.ref (hm_lb q + 2 + t), .int (nI 0), .retAddr 0, .retAddr 0] [] (hm_hC k ad w h n s) Q := by
  rw [show hm_hC k ad w h n s = hm_hC (hm_uM k (60 + 4 * q + t) (k (60 + 4 * q + t))) ad w h n s by rw [hm_uMs]]
  refine r_iconst k_8_0 ci_0 ?_
  refine r_istore_n k_8_1 rfl ?_
  refine r_aload_n k_8_2 rfl ?_
  refine r_alen k_8_3 (rC_l2 (k := hm_uM k (60 + 4 * q + t) (k (60 + 4 * q + t))) hq ht) rfl ?_
  refine r_istore_n k_8_4 rfl ?_
  exact l_8 hq ht hQ 5 0 (k (60 + 4 * q + t)) (by omega) (fun i hi => absurd hi (by omega))
def hc_f0 (i : Nat) : Int32 := if i = 1 ∨ i = 2 then -1 else nI 0
/-- all but the reader's fields and the law q -/
def hc_rs (q : Nat) (k k2 : hm_M) : Prop := ∀ j, ¬ j = 8 → (j < 46 ∨ 51 < j) → (j < 60 + 4 * q ∨ 63 + 4 * q < j) → k2 j = k j
theorem hc_rs.rfl2 (q : Nat) (k : hm_M) : hc_rs q k k := fun _ _ _ _ => rfl
theorem hc_rs.tr {q : Nat} {k k2 k3 : hm_M} (a : hc_rs q k k2) (b : hc_rs q k2 k3) : hc_rs q k k3 := fun j h1 h2 h3 => (b j h1 h2 h3).trans (a j h1 h2 h3)
theorem hc_rs.u {q f : Nat} {k : hm_M} {F : Nat → Int32} (hf : f = 8 ∨ (46 ≤ f ∧ f ≤ 51) ∨ (60 + 4 * q ≤ f ∧ f ≤ 63 + 4 * q)) : hc_rs q k (hm_uM k f F) := fun j h1 h2 h3 => if_neg (by omega)
def hc_LF (k : hm_M) (q : Nat) (F : Nat → Int32) : Prop := ∀ t, t < 4 → ∀ i, i < 5 → k (60 + 4 * q + t) i = F (5 * t + i)
set_option maxRecDepth 20000 in
theorem l_7 {d n s : Nat} {ad : hm_AD} {w : hm_W} {h : Nat → Option va_E} {Q : Option Value → hm_H → Prop} {q : Nat} (hq : q < 5) : ∀ (j t : Nat) (k : hm_M), t + j = 4 → (∀ u, u < t → ∀ i, i < 5 → k (60 + 4 * q + u) i = hc_f0 i) → (∀ k2, hc_rs q k k2 → (∀ u, u < 4 → ∀ i, i < 5 → k2 (60 + 4 * q + u) i = hc_f0 i) → Q none (hm_hC k2 ad w h n s)) → hm_T (d + 1) 7 2 [.ref (hm_lb q), .int (nI t)] [] (hm_hC k ad w h n s) Q := by
  intro j
  induction j with
  | zero =>
    intro t k hi hf hQ
    refine r_iload_n k_7_2 rfl ?_
    refine r_iconst k_7_3 ci_4 ?_
    refine r_icmp_ge k_7_4 rfl (fun c_4 => ?_) (fun z => absurd (nI_le (show 4 ≤ t by omega) (by omega)) z)
    exact hm_T.ret m_7 k_7_41 rfl (hQ k (hc_rs.rfl2 q k) (fun u hu => hf u (by omega)))
  | succ j ih =>
    intro t k hi hf hQ
    refine r_iload_n k_7_2 rfl ?_
    refine r_iconst k_7_3 ci_4 ?_
    refine r_icmp_ge k_7_4 rfl (fun z => absurd z (nI_ge (show t < 4 by omega) (by omega))) (fun c_4 => ?_)
    refine r_aload_n k_7_7 rfl ?_
    refine r_get m_7 k_7_8 fl_2_11 (rC_l0 hq) rfl ?_
    refine r_iload_n k_7_11 rfl ?_
    refine r_aaldn (k := t) k_7_12 (rC_l1 hq) (by decide) rfl (by omega) (by decide) (by show va_rf (if t < 4 then some _ else none) = _; rw [if_pos (by omega)]; try rfl) ?_
    refine r_iconst k_7_13 ci_0 ?_
    refine r_calls2 m_7 k_7_14 cl_2_19 m_8 (by decide) rfl rfl (Nat.le_of_ble_eq_true rfl) (Nat.le_of_ble_eq_true rfl) ?_
    refine s_8 hq (show t < 4 by omega) (fun f hf2 => ?_)
    refine r_aload_n k_7_17 rfl ?_
    refine r_get m_7 k_7_18 fl_2_11 (rC_l0 hq) rfl ?_
    refine r_iload_n k_7_21 rfl ?_
    refine r_aaldn (k := t) k_7_22 (rC_l1 hq) (by decide) rfl (by omega) (by decide) (by show va_rf (if t < 4 then some _ else none) = _; rw [if_pos (by omega)]; try rfl) ?_
    refine r_iconst k_7_23 ci_1 ?_
    refine r_iconst k_7_24 ci_m1 ?_
    refine r_iastn (k := 1) k_7_25 ((rC_l2 (k := (hm_uM k (60 + 4 * q + t) f)) hq (show t < 4 by omega)).trans (by rw [show (hm_uM k (60 + 4 * q + t) f) (60 + 4 * q + t) = f from if_pos rfl])) rfl rfl (by decide) (by decide) ((wC_law hq (show t < 4 by omega) _).trans (by rw [hm_uM2])) ?_
    refine r_aload_n k_7_26 rfl ?_
    refine r_get m_7 k_7_27 fl_2_11 (rC_l0 hq) rfl ?_
    refine r_iload_n k_7_30 rfl ?_
    refine r_aaldn (k := t) k_7_31 (rC_l1 hq) (by decide) rfl (by omega) (by decide) (by show va_rf (if t < 4 then some _ else none) = _; rw [if_pos (by omega)]; try rfl) ?_
    refine r_iconst k_7_32 ci_2 ?_
    refine r_iconst k_7_33 ci_m1 ?_
    refine r_iastn (k := 2) k_7_34 ((rC_l2 (k := (hm_uM k (60 + 4 * q + t) (upd f 1 (-1)))) hq (show t < 4 by omega)).trans (by rw [show (hm_uM k (60 + 4 * q + t) (upd f 1 (-1))) (60 + 4 * q + t) = upd f 1 (-1) from if_pos rfl])) rfl rfl (by decide) (by decide) ((wC_law hq (show t < 4 by omega) _).trans (by rw [hm_uM2])) ?_
    refine r_iincn k_7_35 rfl (nI_inc t) rfl ?_
    refine r_goto k_7_38 rfl ?_
    refine ih (t + 1) _ (by omega) (fun u hu i hi5 => ?_) (fun k2 hr hk2 => hQ k2 ((hc_rs.u (by omega)).tr hr) hk2)
    by_cases hut : u = t
    · subst hut
      rw [show hm_uM k (60 + 4 * q + u) (upd (upd f 1 (-1)) 2 (-1)) (60 + 4 * q + u) = upd (upd f 1 (-1)) 2 (-1) from if_pos rfl]
      unfold hc_f0
      by_cases h2 : i = 2
      · rw [show upd (upd f 1 (-1)) 2 (-1) i = -1 from if_pos h2, if_pos (Or.inr h2)]
      · rw [show upd (upd f 1 (-1)) 2 (-1) i = upd f 1 (-1) i from if_neg h2]
        by_cases h1 : i = 1
        · rw [show upd f 1 (-1) i = -1 from if_pos h1, if_pos (Or.inl h1)]
        · rw [show upd f 1 (-1) i = f i from if_neg h1, if_neg (fun z => z.elim h1 h2)]
          exact hf2 i hi5
    · rw [show hm_uM k (60 + 4 * q + t) (upd (upd f 1 (-1)) 2 (-1)) (60 + 4 * q + u) = k (60 + 4 * q + u) from if_neg (by omega)]
      exact hf u (by omega) i hi5
set_option maxRecDepth 20000 in
theorem s_7 {d n s : Nat} {k : hm_M} {ad : hm_AD} {w : hm_W} {h : Nat → Option va_E} {Q : Option Value → hm_H → Prop} {q : Nat} (hq : q < 5) (hQ : ∀ k2, hc_rs q k k2 → (∀ u, u < 4 → ∀ i, i < 5 → k2 (60 + 4 * q + u) i = hc_f0 i) → Q none (hm_hC k2 ad w h n s)) : hm_T (d + 1) 7 0 [.ref (hm_lb q), .retAddr 0] [] (hm_hC k ad w h n s) Q := by
  refine r_iconst k_7_0 ci_0 ?_
  refine r_istore_n k_7_1 rfl ?_
  exact l_7 hq 4 0 k (by omega) (fun u hu => absurd hu (by omega)) hQ
set_option maxRecDepth 20000 in
theorem s_32_no {d n s : Nat} {k : hm_M} {ad : hm_AD} {w : hm_W} {h : Nat → Option va_E} {Q : Option Value → hm_H → Prop} (hQ : Q (some (.int (nI 1))) (hm_hC k ad w h n s)) : hm_T (d + 1) 32 0 [.ref 27, .int (-1)] [] (hm_hC k ad w h n s) Q := by
  refine r_iload_n k_32_0 rfl ?_
  refine r_iconst k_32_1 ci_m1 ?_
  refine r_icmp_ne k_32_2 rfl (fun z => absurd z (fun z => z rfl)) (fun c_2 => ?_)
  refine r_iconst k_32_5 ci_1 ?_
  exact hm_T.ret m_32 k_32_6 rfl hQ
set_option maxRecDepth 20000 in
theorem s_32_again {d n s : Nat} {k : hm_M} {ad : hm_AD} {w : hm_W} {h : Nat → Option va_E} {Q : Option Value → hm_H → Prop} {x : Nat} (hx : x < 4) (hh : hm_has (k 50 0) (nI x) = true) (hQ : Q (some (.int (nI 3))) (hm_hC k ad w h n s)) : hm_T (d + 1) 32 0 [.ref 27, .int (nI x)] [] (hm_hC k ad w h n s) Q := by
  refine r_iload_n k_32_0 rfl ?_
  refine r_iconst k_32_1 ci_m1 ?_
  refine r_icmp_ne k_32_2 rfl (fun c_2 => ?_) (fun z => absurd (hm_nIm x (by omega)) z)
  refine r_aload_n k_32_7 rfl ?_
  refine r_get m_32 k_32_8 fl_3_23 rfl rfl ?_
  refine r_iload_n k_32_11 rfl ?_
  refine r_calls2 m_32 k_32_12 cl_3_65 m_21 (by decide) rfl rfl (Nat.le_of_ble_eq_true rfl) (Nat.le_of_ble_eq_true rfl) ?_
  refine s_21 ?_
  rw [hh]
  refine r_if_eq k_32_15 rfl (fun z => absurd z (by decide)) (fun c_15 => ?_)
  refine r_iconst k_32_18 ci_3 ?_
  exact hm_T.ret m_32 k_32_19 rfl hQ
set_option maxRecDepth 20000 in
theorem s_32 {d n s : Nat} {k : hm_M} {ad : hm_AD} {w : hm_W} {h : Nat → Option va_E} {Q : Option Value → hm_H → Prop} {x : Nat} (hx : x < 4) (hh : hm_has (k 50 0) (nI x) = false) (hQ : Q (some (.int (nI 0))) (hm_hC (hm_uM (hm_uM (hm_uM (hm_uM (hm_uM k 50 (fun _ => k 50 0 ||| nI 1 <<< (nI x &&& 31))) 51 (fun _ => nI 0)) 48 (fun _ => nI x)) 47 (fun _ => k 47 0 + nI 1)) 46 (fun _ => nI 1)) ad w h n s)) : hm_T (d + 1) 32 0 [.ref 27, .int (nI x)] [] (hm_hC k ad w h n s) Q := by
  refine r_iload_n k_32_0 rfl ?_
  refine r_iconst k_32_1 ci_m1 ?_
  refine r_icmp_ne k_32_2 rfl (fun c_2 => ?_) (fun z => absurd (hm_nIm x (by omega)) z)
  refine r_aload_n k_32_7 rfl ?_
  refine r_get m_32 k_32_8 fl_3_23 rfl rfl ?_
  refine r_iload_n k_32_11 rfl ?_
  refine r_calls2 m_32 k_32_12 cl_3_65 m_21 (by decide) rfl rfl (Nat.le_of_ble_eq_true rfl) (Nat.le_of_ble_eq_true rfl) ?_
  refine s_21 ?_
  rw [hh]
  refine r_if_eq k_32_15 rfl (fun c_15 => ?_) (fun z => absurd rfl z)
  refine r_aload_n k_32_20 rfl ?_
  refine r_dup k_32_21 rfl ?_
  refine r_get m_32 k_32_22 fl_3_23 rfl rfl ?_
  refine r_iconst k_32_25 ci_1 ?_
  refine r_iload_n k_32_26 rfl ?_
  refine r_ishl k_32_27 ?_
  refine r_ior k_32_28 ?_
  refine r_put m_32 k_32_29 fl_3_23 rfl (Nat.le_of_ble_eq_true rfl) rfl rfl (wC_50 _) ?_
  refine r_aload_n k_32_32 rfl ?_
  refine r_iconst k_32_33 ci_0 ?_
  refine r_put m_32 k_32_34 fl_3_69 rfl (Nat.le_of_ble_eq_true rfl) rfl rfl (wC_51 _) ?_
  refine r_aload_n k_32_37 rfl ?_
  refine r_iload_n k_32_38 rfl ?_
  refine r_put m_32 k_32_39 fl_3_72 rfl (Nat.le_of_ble_eq_true rfl) rfl rfl (wC_48 _) ?_
  refine r_aload_n k_32_42 rfl ?_
  refine r_iconst k_32_43 ci_1 ?_
  refine r_callv2 m_32 k_32_44 cl_3_52 m_33 (by decide) rfl rfl (Nat.le_of_ble_eq_true rfl) (Nat.le_of_ble_eq_true rfl) rfl rfl ?_
  refine s_33 ?_
  exact hm_T.ret m_32 k_32_47 rfl hQ
set_option maxRecDepth 20000 in
theorem s_35_no {d n s : Nat} {k : hm_M} {ad : hm_AD} {w : hm_W} {h : Nat → Option va_E} {Q : Option Value → hm_H → Prop} {q : Nat} (hQ : Q (some (.int (nI 1))) (hm_hC k ad w h n s)) : hm_T (d + 1) 35 0 [.ref 27, .int (-1), .ref (hm_lb q)] [] (hm_hC k ad w h n s) Q := by
  refine r_iload_n k_35_0 rfl ?_
  refine r_iconst k_35_1 ci_m1 ?_
  refine r_icmp_ne k_35_2 rfl (fun z => absurd z (fun z => z rfl)) (fun c_2 => ?_)
  refine r_iconst k_35_5 ci_1 ?_
  exact hm_T.ret m_35 k_35_6 rfl hQ
set_option maxRecDepth 20000 in
theorem s_35_again {d n s : Nat} {k : hm_M} {ad : hm_AD} {w : hm_W} {h : Nat → Option va_E} {Q : Option Value → hm_H → Prop} {q x : Nat} (hx : x < 13) (hh : hm_has (k 51 0) (nI x) = true) (hQ : Q (some (.int (nI 4))) (hm_hC k ad w h n s)) : hm_T (d + 1) 35 0 [.ref 27, .int (nI x), .ref (hm_lb q)] [] (hm_hC k ad w h n s) Q := by
  refine r_iload_n k_35_0 rfl ?_
  refine r_iconst k_35_1 ci_m1 ?_
  refine r_icmp_ne k_35_2 rfl (fun c_2 => ?_) (fun z => absurd (hm_nIm x (by omega)) z)
  refine r_aload_n k_35_7 rfl ?_
  refine r_get m_35 k_35_8 fl_3_69 rfl rfl ?_
  refine r_iload_n k_35_11 rfl ?_
  refine r_calls2 m_35 k_35_12 cl_3_65 m_21 (by decide) rfl rfl (Nat.le_of_ble_eq_true rfl) (Nat.le_of_ble_eq_true rfl) ?_
  refine s_21 ?_
  rw [hh]
  refine r_if_eq k_35_15 rfl (fun z => absurd z (by decide)) (fun c_15 => ?_)
  refine r_iconst k_35_18 ci_4 ?_
  exact hm_T.ret m_35 k_35_19 rfl hQ
set_option maxRecDepth 20000 in
theorem s_35_own {d n s : Nat} {k : hm_M} {ad : hm_AD} {w : hm_W} {h : Nat → Option va_E} {Q : Option Value → hm_H → Prop} {q : Nat} {cl : Nat} (hcl : k 48 0 = nI cl) (hcl4 : cl < 4) (hh : hm_has (k 51 0) (nI (9 + cl)) = false) (hQ : Q (some (.int (nI 5))) (hm_hC k ad w h n s)) : hm_T (d + 1) 35 0 [.ref 27, .int (nI (9 + cl)), .ref (hm_lb q)] [] (hm_hC k ad w h n s) Q := by
  refine r_iload_n k_35_0 rfl ?_
  refine r_iconst k_35_1 ci_m1 ?_
  refine r_icmp_ne k_35_2 rfl (fun c_2 => ?_) (fun z => absurd (hm_nIm (9 + cl) (by omega)) z)
  refine r_aload_n k_35_7 rfl ?_
  refine r_get m_35 k_35_8 fl_3_69 rfl rfl ?_
  refine r_iload_n k_35_11 rfl ?_
  refine r_calls2 m_35 k_35_12 cl_3_65 m_21 (by decide) rfl rfl (Nat.le_of_ble_eq_true rfl) (Nat.le_of_ble_eq_true rfl) ?_
  refine s_21 ?_
  rw [hh]
  refine r_if_eq k_35_15 rfl (fun c_15 => ?_) (fun z => absurd rfl z)
  refine r_iload_n k_35_20 rfl ?_
  refine r_bipush k_35_21 cb_9 ?_
  refine r_aload_n k_35_23 rfl ?_
  refine r_get m_35 k_35_24 fl_3_72 rfl rfl ?_
  rw [hcl]
  refine r_iadd k_35_27 ?_
  rw [nI_add]
  refine r_icmp_ne k_35_28 rfl (fun z => absurd z (fun z => z rfl)) (fun c_28 => ?_)
  refine r_iconst k_35_31 ci_5 ?_
  exact hm_T.ret m_35 k_35_32 rfl hQ
set_option maxRecDepth 20000 in
theorem s_35_b1 {d n s : Nat} {k : hm_M} {ad : hm_AD} {w : hm_W} {h : Nat → Option va_E} {Q : Option Value → hm_H → Prop} {q : Nat} {cl : Nat} (hcl : k 48 0 = nI cl) (hcl4 : cl < 4) (hh : hm_has (k 51 0) (nI 6) = false) (hQ : Q (some (.int (nI 0))) (hm_hC (hm_uM (hm_uM (hm_uM (hm_uM k 51 (fun _ => k 51 0 ||| nI 1 <<< (nI 6 &&& 31))) 49 (fun _ => nI 1)) 47 (fun _ => k 47 0 + nI 1)) 46 (fun _ => nI 3)) ad w h n s)) : hm_T (d + 1) 35 0 [.ref 27, .int (nI 6), .ref (hm_lb q)] [] (hm_hC k ad w h n s) Q := by
  refine r_iload_n k_35_0 rfl ?_
  refine r_iconst k_35_1 ci_m1 ?_
  refine r_icmp_ne k_35_2 rfl (fun c_2 => ?_) (fun z => absurd (by decide) z)
  refine r_aload_n k_35_7 rfl ?_
  refine r_get m_35 k_35_8 fl_3_69 rfl rfl ?_
  refine r_iload_n k_35_11 rfl ?_
  refine r_calls2 m_35 k_35_12 cl_3_65 m_21 (by decide) rfl rfl (Nat.le_of_ble_eq_true rfl) (Nat.le_of_ble_eq_true rfl) ?_
  refine s_21 ?_
  rw [hh]
  refine r_if_eq k_35_15 rfl (fun c_15 => ?_) (fun z => absurd rfl z)
  refine r_iload_n k_35_20 rfl ?_
  refine r_bipush k_35_21 cb_9 ?_
  refine r_aload_n k_35_23 rfl ?_
  refine r_get m_35 k_35_24 fl_3_72 rfl rfl ?_
  rw [hcl]
  refine r_iadd k_35_27 ?_
  rw [nI_add]
  refine r_icmp_ne k_35_28 rfl (fun c_28 => ?_) (fun z => absurd (fun z => absurd (hm_nIinj z (by omega)) (by omega)) z)
  refine r_aload_n k_35_33 rfl ?_
  refine r_dup k_35_34 rfl ?_
  refine r_get m_35 k_35_35 fl_3_69 rfl rfl ?_
  refine r_iconst k_35_38 ci_1 ?_
  refine r_iload_n k_35_39 rfl ?_
  refine r_ishl k_35_40 ?_
  refine r_ior k_35_41 ?_
  refine r_put m_35 k_35_42 fl_3_69 rfl (Nat.le_of_ble_eq_true rfl) rfl rfl (wC_51 _) ?_
  refine r_iload_n k_35_45 rfl ?_
  refine r_bipush k_35_46 cb_6 ?_
  refine r_icmp_eq k_35_48 rfl (fun c_48 => ?_) (fun z => absurd rfl z)
  refine r_aload_n k_35_57 rfl ?_
  refine r_iload_n k_35_58 rfl ?_
  refine r_bipush k_35_59 cb_6 ?_
  refine r_icmp_ne k_35_61 rfl (fun z => absurd z (fun z => z rfl)) (fun c_61 => ?_)
  refine r_iconst k_35_64 ci_1 ?_
  refine r_goto k_35_65 rfl ?_
  refine r_put m_35 k_35_69 fl_3_75 rfl (Nat.le_of_ble_eq_true rfl) rfl rfl (wC_49 _) ?_
  refine r_aload_n k_35_72 rfl ?_
  refine r_iconst k_35_73 ci_3 ?_
  refine r_callv2 m_35 k_35_74 cl_3_52 m_33 (by decide) rfl rfl (Nat.le_of_ble_eq_true rfl) (Nat.le_of_ble_eq_true rfl) rfl rfl ?_
  refine s_33 ?_
  exact hm_T.ret m_35 k_35_77 rfl hQ
set_option maxRecDepth 20000 in
theorem s_35_b2 {d n s : Nat} {k : hm_M} {ad : hm_AD} {w : hm_W} {h : Nat → Option va_E} {Q : Option Value → hm_H → Prop} {q : Nat} {cl : Nat} (hcl : k 48 0 = nI cl) (hcl4 : cl < 4) (hh : hm_has (k 51 0) (nI 7) = false) (hQ : Q (some (.int (nI 0))) (hm_hC (hm_uM (hm_uM (hm_uM (hm_uM k 51 (fun _ => k 51 0 ||| nI 1 <<< (nI 7 &&& 31))) 49 (fun _ => nI 2)) 47 (fun _ => k 47 0 + nI 1)) 46 (fun _ => nI 3)) ad w h n s)) : hm_T (d + 1) 35 0 [.ref 27, .int (nI 7), .ref (hm_lb q)] [] (hm_hC k ad w h n s) Q := by
  refine r_iload_n k_35_0 rfl ?_
  refine r_iconst k_35_1 ci_m1 ?_
  refine r_icmp_ne k_35_2 rfl (fun c_2 => ?_) (fun z => absurd (by decide) z)
  refine r_aload_n k_35_7 rfl ?_
  refine r_get m_35 k_35_8 fl_3_69 rfl rfl ?_
  refine r_iload_n k_35_11 rfl ?_
  refine r_calls2 m_35 k_35_12 cl_3_65 m_21 (by decide) rfl rfl (Nat.le_of_ble_eq_true rfl) (Nat.le_of_ble_eq_true rfl) ?_
  refine s_21 ?_
  rw [hh]
  refine r_if_eq k_35_15 rfl (fun c_15 => ?_) (fun z => absurd rfl z)
  refine r_iload_n k_35_20 rfl ?_
  refine r_bipush k_35_21 cb_9 ?_
  refine r_aload_n k_35_23 rfl ?_
  refine r_get m_35 k_35_24 fl_3_72 rfl rfl ?_
  rw [hcl]
  refine r_iadd k_35_27 ?_
  rw [nI_add]
  refine r_icmp_ne k_35_28 rfl (fun c_28 => ?_) (fun z => absurd (fun z => absurd (hm_nIinj z (by omega)) (by omega)) z)
  refine r_aload_n k_35_33 rfl ?_
  refine r_dup k_35_34 rfl ?_
  refine r_get m_35 k_35_35 fl_3_69 rfl rfl ?_
  refine r_iconst k_35_38 ci_1 ?_
  refine r_iload_n k_35_39 rfl ?_
  refine r_ishl k_35_40 ?_
  refine r_ior k_35_41 ?_
  refine r_put m_35 k_35_42 fl_3_69 rfl (Nat.le_of_ble_eq_true rfl) rfl rfl (wC_51 _) ?_
  refine r_iload_n k_35_45 rfl ?_
  refine r_bipush k_35_46 cb_6 ?_
  refine r_icmp_eq k_35_48 rfl (fun z => absurd z (by decide)) (fun c_48 => ?_)
  refine r_iload_n k_35_51 rfl ?_
  refine r_bipush k_35_52 cb_7 ?_
  refine r_icmp_ne k_35_54 rfl (fun z => absurd z (fun z => z rfl)) (fun c_54 => ?_)
  refine r_aload_n k_35_57 rfl ?_
  refine r_iload_n k_35_58 rfl ?_
  refine r_bipush k_35_59 cb_6 ?_
  refine r_icmp_ne k_35_61 rfl (fun c_61 => ?_) (fun z => absurd (by decide) z)
  refine r_iconst k_35_68 ci_2 ?_
  refine r_put m_35 k_35_69 fl_3_75 rfl (Nat.le_of_ble_eq_true rfl) rfl rfl (wC_49 _) ?_
  refine r_aload_n k_35_72 rfl ?_
  refine r_iconst k_35_73 ci_3 ?_
  refine r_callv2 m_35 k_35_74 cl_3_52 m_33 (by decide) rfl rfl (Nat.le_of_ble_eq_true rfl) (Nat.le_of_ble_eq_true rfl) rfl rfl ?_
  refine s_33 ?_
  exact hm_T.ret m_35 k_35_77 rfl hQ
set_option maxRecDepth 20000 in
theorem s_35_ban {d n s : Nat} {k : hm_M} {ad : hm_AD} {w : hm_W} {h : Nat → Option va_E} {Q : Option Value → hm_H → Prop} {q : Nat} (hq : q < 5) {cl : Nat} (hcl : k 48 0 = nI cl) (hcl4 : cl < 4) (hh : hm_has (k 51 0) (nI 8) = false) (hQ : Q (some (.int (nI 0))) (hm_hC (hm_uM (hm_uM (hm_uM (hm_uM k 51 (fun _ => k 51 0 ||| nI 1 <<< (nI 8 &&& 31))) (60 + 4 * q + cl) (upd (k (60 + 4 * q + cl)) 3 (nI 1))) 47 (fun _ => k 47 0 + nI 1)) 46 (fun _ => nI 2)) ad w h n s)) : hm_T (d + 1) 35 0 [.ref 27, .int (nI 8), .ref (hm_lb q)] [] (hm_hC k ad w h n s) Q := by
  have e61 : (hm_uM k 51 (fun _ => k 51 0 ||| nI 1 <<< (nI 8 &&& 31))) (60 + 4 * q + cl) = k (60 + 4 * q + cl) := if_neg (by omega)
  refine r_iload_n k_35_0 rfl ?_
  refine r_iconst k_35_1 ci_m1 ?_
  refine r_icmp_ne k_35_2 rfl (fun c_2 => ?_) (fun z => absurd (by decide) z)
  refine r_aload_n k_35_7 rfl ?_
  refine r_get m_35 k_35_8 fl_3_69 rfl rfl ?_
  refine r_iload_n k_35_11 rfl ?_
  refine r_calls2 m_35 k_35_12 cl_3_65 m_21 (by decide) rfl rfl (Nat.le_of_ble_eq_true rfl) (Nat.le_of_ble_eq_true rfl) ?_
  refine s_21 ?_
  rw [hh]
  refine r_if_eq k_35_15 rfl (fun c_15 => ?_) (fun z => absurd rfl z)
  refine r_iload_n k_35_20 rfl ?_
  refine r_bipush k_35_21 cb_9 ?_
  refine r_aload_n k_35_23 rfl ?_
  refine r_get m_35 k_35_24 fl_3_72 rfl rfl ?_
  rw [hcl]
  refine r_iadd k_35_27 ?_
  rw [nI_add]
  refine r_icmp_ne k_35_28 rfl (fun c_28 => ?_) (fun z => absurd (fun z => absurd (hm_nIinj z (by omega)) (by omega)) z)
  refine r_aload_n k_35_33 rfl ?_
  refine r_dup k_35_34 rfl ?_
  refine r_get m_35 k_35_35 fl_3_69 rfl rfl ?_
  refine r_iconst k_35_38 ci_1 ?_
  refine r_iload_n k_35_39 rfl ?_
  refine r_ishl k_35_40 ?_
  refine r_ior k_35_41 ?_
  refine r_put m_35 k_35_42 fl_3_69 rfl (Nat.le_of_ble_eq_true rfl) rfl rfl (wC_51 _) ?_
  refine r_iload_n k_35_45 rfl ?_
  refine r_bipush k_35_46 cb_6 ?_
  refine r_icmp_eq k_35_48 rfl (fun z => absurd z (by decide)) (fun c_48 => ?_)
  refine r_iload_n k_35_51 rfl ?_
  refine r_bipush k_35_52 cb_7 ?_
  refine r_icmp_ne k_35_54 rfl (fun c_54 => ?_) (fun z => absurd (by decide) z)
  refine r_iload_n k_35_78 rfl ?_
  refine r_bipush k_35_79 cb_8 ?_
  refine r_icmp_ne k_35_81 rfl (fun z => absurd z (fun z => z rfl)) (fun c_81 => ?_)
  refine r_aload_n k_35_84 rfl ?_
  refine r_aload_n k_35_85 rfl ?_
  refine r_get m_35 k_35_86 fl_3_72 rfl rfl ?_
  rw [show (hm_uM k 51 (fun _ => k 51 0 ||| nI 1 <<< (nI 8 &&& 31))) 48 0 = nI cl from hcl]
  refine r_iconst k_35_89 ci_3 ?_
  refine r_iconst k_35_90 ci_1 ?_
  refine r_callv4 m_35 k_35_91 cl_3_78 m_36 (by decide) rfl rfl (Nat.le_of_ble_eq_true rfl) (Nat.le_of_ble_eq_true rfl) (rC_l0 hq) rfl ?_
  refine s_36 (k := (hm_uM k 51 (fun _ => k 51 0 ||| nI 1 <<< (nI 8 &&& 31)))) hq hcl4 (i := 3) (by decide) ?_
  rw [e61]
  refine r_goto k_35_94 rfl ?_
  refine r_aload_n k_35_129 rfl ?_
  refine r_iconst k_35_130 ci_2 ?_
  refine r_callv2 m_35 k_35_131 cl_3_52 m_33 (by decide) rfl rfl (Nat.le_of_ble_eq_true rfl) (Nat.le_of_ble_eq_true rfl) rfl rfl ?_
  refine s_33 ?_
  rw [show (hm_uM (hm_uM k 51 (fun _ => k 51 0 ||| nI 1 <<< (nI 8 &&& 31))) (60 + 4 * q + cl) (upd (k (60 + 4 * q + cl)) 3 (nI 1))) 47 0 = k 47 0 by rw [show (hm_uM (hm_uM k 51 (fun _ => k 51 0 ||| nI 1 <<< (nI 8 &&& 31))) (60 + 4 * q + cl) (upd (k (60 + 4 * q + cl)) 3 (nI 1))) 47 = k 47 from (if_neg (by omega)).trans rfl]]
  exact hm_T.ret m_35 k_35_134 rfl hQ
set_option maxRecDepth 20000 in
theorem s_35_pap {d n s : Nat} {k : hm_M} {ad : hm_AD} {w : hm_W} {h : Nat → Option va_E} {Q : Option Value → hm_H → Prop} {q x : Nat} (hq : q < 5) {cl : Nat} (hcl : k 48 0 = nI cl) (hcl4 : cl < 4) (hx : x < 6) (hh : hm_has (k 51 0) (nI x) = false) (hQ : Q (some (.int (nI 0))) (hm_hC (hm_uM (hm_uM (hm_uM (hm_uM k 51 (fun _ => k 51 0 ||| nI 1 <<< (nI x &&& 31))) (60 + 4 * q + cl) (upd (k (60 + 4 * q + cl)) 0 (k (60 + 4 * q + cl) 0 ||| nI 1 <<< (nI x &&& 31)))) 47 (fun _ => k 47 0 + nI 1)) 46 (fun _ => nI 2)) ad w h n s)) : hm_T (d + 1) 35 0 [.ref 27, .int (nI x), .ref (hm_lb q)] [] (hm_hC k ad w h n s) Q := by
  have e61 : (hm_uM k 51 (fun _ => k 51 0 ||| nI 1 <<< (nI x &&& 31))) (60 + 4 * q + cl) = k (60 + 4 * q + cl) := if_neg (by omega)
  refine r_iload_n k_35_0 rfl ?_
  refine r_iconst k_35_1 ci_m1 ?_
  refine r_icmp_ne k_35_2 rfl (fun c_2 => ?_) (fun z => absurd (hm_nIm x (by omega)) z)
  refine r_aload_n k_35_7 rfl ?_
  refine r_get m_35 k_35_8 fl_3_69 rfl rfl ?_
  refine r_iload_n k_35_11 rfl ?_
  refine r_calls2 m_35 k_35_12 cl_3_65 m_21 (by decide) rfl rfl (Nat.le_of_ble_eq_true rfl) (Nat.le_of_ble_eq_true rfl) ?_
  refine s_21 ?_
  rw [hh]
  refine r_if_eq k_35_15 rfl (fun c_15 => ?_) (fun z => absurd rfl z)
  refine r_iload_n k_35_20 rfl ?_
  refine r_bipush k_35_21 cb_9 ?_
  refine r_aload_n k_35_23 rfl ?_
  refine r_get m_35 k_35_24 fl_3_72 rfl rfl ?_
  rw [hcl]
  refine r_iadd k_35_27 ?_
  rw [nI_add]
  refine r_icmp_ne k_35_28 rfl (fun c_28 => ?_) (fun z => absurd (fun z => absurd (hm_nIinj z (by omega)) (by omega)) z)
  refine r_aload_n k_35_33 rfl ?_
  refine r_dup k_35_34 rfl ?_
  refine r_get m_35 k_35_35 fl_3_69 rfl rfl ?_
  refine r_iconst k_35_38 ci_1 ?_
  refine r_iload_n k_35_39 rfl ?_
  refine r_ishl k_35_40 ?_
  refine r_ior k_35_41 ?_
  refine r_put m_35 k_35_42 fl_3_69 rfl (Nat.le_of_ble_eq_true rfl) rfl rfl (wC_51 _) ?_
  refine r_iload_n k_35_45 rfl ?_
  refine r_bipush k_35_46 cb_6 ?_
  refine r_icmp_eq k_35_48 rfl (fun z => absurd z (fun z => absurd (hm_nIinj z (by omega)) (by omega))) (fun c_48 => ?_)
  refine r_iload_n k_35_51 rfl ?_
  refine r_bipush k_35_52 cb_7 ?_
  refine r_icmp_ne k_35_54 rfl (fun c_54 => ?_) (fun z => absurd (fun z => absurd (hm_nIinj z (by omega)) (by omega)) z)
  refine r_iload_n k_35_78 rfl ?_
  refine r_bipush k_35_79 cb_8 ?_
  refine r_icmp_ne k_35_81 rfl (fun c_81 => ?_) (fun z => absurd (fun z => absurd (hm_nIinj z (by omega)) (by omega)) z)
  refine r_iload_n k_35_97 rfl ?_
  refine r_bipush k_35_98 cb_6 ?_
  refine r_icmp_ge k_35_100 rfl (fun z => absurd z (nI_ge (show x < 6 by omega) (by omega))) (fun c_100 => ?_)
  refine r_aload_n k_35_103 rfl ?_
  refine r_aload_n k_35_104 rfl ?_
  refine r_get m_35 k_35_105 fl_3_72 rfl rfl ?_
  rw [show (hm_uM k 51 (fun _ => k 51 0 ||| nI 1 <<< (nI x &&& 31))) 48 0 = nI cl from hcl]
  refine r_iconst k_35_108 ci_0 ?_
  refine r_iload_n k_35_109 rfl ?_
  refine r_callv4 m_35 k_35_110 cl_3_82 m_37 (by decide) rfl rfl (Nat.le_of_ble_eq_true rfl) (Nat.le_of_ble_eq_true rfl) (rC_l0 hq) rfl ?_
  refine s_37 (k := (hm_uM k 51 (fun _ => k 51 0 ||| nI 1 <<< (nI x &&& 31)))) hq hcl4 (i := 0) (by decide) ?_
  rw [e61]
  refine r_goto k_35_113 rfl ?_
  refine r_aload_n k_35_129 rfl ?_
  refine r_iconst k_35_130 ci_2 ?_
  refine r_callv2 m_35 k_35_131 cl_3_52 m_33 (by decide) rfl rfl (Nat.le_of_ble_eq_true rfl) (Nat.le_of_ble_eq_true rfl) rfl rfl ?_
  refine s_33 ?_
  rw [show (hm_uM (hm_uM k 51 (fun _ => k 51 0 ||| nI 1 <<< (nI x &&& 31))) (60 + 4 * q + cl) (upd (k (60 + 4 * q + cl)) 0 (k (60 + 4 * q + cl) 0 ||| nI 1 <<< (nI x &&& 31)))) 47 0 = k 47 0 by rw [show (hm_uM (hm_uM k 51 (fun _ => k 51 0 ||| nI 1 <<< (nI x &&& 31))) (60 + 4 * q + cl) (upd (k (60 + 4 * q + cl)) 0 (k (60 + 4 * q + cl) 0 ||| nI 1 <<< (nI x &&& 31)))) 47 = k 47 from (if_neg (by omega)).trans rfl]]
  exact hm_T.ret m_35 k_35_134 rfl hQ
set_option maxRecDepth 20000 in
theorem s_35_stp {d n s : Nat} {k : hm_M} {ad : hm_AD} {w : hm_W} {h : Nat → Option va_E} {Q : Option Value → hm_H → Prop} {q x : Nat} (hq : q < 5) {cl : Nat} (hcl : k 48 0 = nI cl) (hcl4 : cl < 4) (hx : x < 4) (hxc : ¬ x = cl) (hh : hm_has (k 51 0) (nI (9 + x)) = false) (hQ : Q (some (.int (nI 0))) (hm_hC (hm_uM (hm_uM (hm_uM (hm_uM k 51 (fun _ => k 51 0 ||| nI 1 <<< (nI (9 + x) &&& 31))) (60 + 4 * q + cl) (upd (k (60 + 4 * q + cl)) 4 (k (60 + 4 * q + cl) 4 ||| nI 1 <<< (nI x &&& 31)))) 47 (fun _ => k 47 0 + nI 1)) 46 (fun _ => nI 2)) ad w h n s)) : hm_T (d + 1) 35 0 [.ref 27, .int (nI (9 + x)), .ref (hm_lb q)] [] (hm_hC k ad w h n s) Q := by
  have e61 : (hm_uM k 51 (fun _ => k 51 0 ||| nI 1 <<< (nI (9 + x) &&& 31))) (60 + 4 * q + cl) = k (60 + 4 * q + cl) := if_neg (by omega)
  refine r_iload_n k_35_0 rfl ?_
  refine r_iconst k_35_1 ci_m1 ?_
  refine r_icmp_ne k_35_2 rfl (fun c_2 => ?_) (fun z => absurd (hm_nIm (9 + x) (by omega)) z)
  refine r_aload_n k_35_7 rfl ?_
  refine r_get m_35 k_35_8 fl_3_69 rfl rfl ?_
  refine r_iload_n k_35_11 rfl ?_
  refine r_calls2 m_35 k_35_12 cl_3_65 m_21 (by decide) rfl rfl (Nat.le_of_ble_eq_true rfl) (Nat.le_of_ble_eq_true rfl) ?_
  refine s_21 ?_
  rw [hh]
  refine r_if_eq k_35_15 rfl (fun c_15 => ?_) (fun z => absurd rfl z)
  refine r_iload_n k_35_20 rfl ?_
  refine r_bipush k_35_21 cb_9 ?_
  refine r_aload_n k_35_23 rfl ?_
  refine r_get m_35 k_35_24 fl_3_72 rfl rfl ?_
  rw [hcl]
  refine r_iadd k_35_27 ?_
  rw [nI_add]
  refine r_icmp_ne k_35_28 rfl (fun c_28 => ?_) (fun z => absurd (fun z => absurd (hm_nIinj z (by omega)) (by omega)) z)
  refine r_aload_n k_35_33 rfl ?_
  refine r_dup k_35_34 rfl ?_
  refine r_get m_35 k_35_35 fl_3_69 rfl rfl ?_
  refine r_iconst k_35_38 ci_1 ?_
  refine r_iload_n k_35_39 rfl ?_
  refine r_ishl k_35_40 ?_
  refine r_ior k_35_41 ?_
  refine r_put m_35 k_35_42 fl_3_69 rfl (Nat.le_of_ble_eq_true rfl) rfl rfl (wC_51 _) ?_
  refine r_iload_n k_35_45 rfl ?_
  refine r_bipush k_35_46 cb_6 ?_
  refine r_icmp_eq k_35_48 rfl (fun z => absurd z (fun z => absurd (hm_nIinj z (by omega)) (by omega))) (fun c_48 => ?_)
  refine r_iload_n k_35_51 rfl ?_
  refine r_bipush k_35_52 cb_7 ?_
  refine r_icmp_ne k_35_54 rfl (fun c_54 => ?_) (fun z => absurd (fun z => absurd (hm_nIinj z (by omega)) (by omega)) z)
  refine r_iload_n k_35_78 rfl ?_
  refine r_bipush k_35_79 cb_8 ?_
  refine r_icmp_ne k_35_81 rfl (fun c_81 => ?_) (fun z => absurd (fun z => absurd (hm_nIinj z (by omega)) (by omega)) z)
  refine r_iload_n k_35_97 rfl ?_
  refine r_bipush k_35_98 cb_6 ?_
  refine r_icmp_ge k_35_100 rfl (fun c_100 => ?_) (fun z => absurd (nI_le (show 6 ≤ (9 + x) by omega) (by omega)) z)
  refine r_aload_n k_35_116 rfl ?_
  refine r_aload_n k_35_117 rfl ?_
  refine r_get m_35 k_35_118 fl_3_72 rfl rfl ?_
  rw [show (hm_uM k 51 (fun _ => k 51 0 ||| nI 1 <<< (nI (9 + x) &&& 31))) 48 0 = nI cl from hcl]
  refine r_iconst k_35_121 ci_4 ?_
  refine r_iload_n k_35_122 rfl ?_
  refine r_bipush k_35_123 cb_9 ?_
  refine r_isub k_35_125 ?_
  rw [hm_nIsub (show 9 + x = 9 + x from rfl)]
  refine r_callv4 m_35 k_35_126 cl_3_82 m_37 (by decide) rfl rfl (Nat.le_of_ble_eq_true rfl) (Nat.le_of_ble_eq_true rfl) (rC_l0 hq) rfl ?_
  refine s_37 (k := (hm_uM k 51 (fun _ => k 51 0 ||| nI 1 <<< (nI (9 + x) &&& 31)))) hq hcl4 (i := 4) (by decide) ?_
  rw [e61]
  refine r_aload_n k_35_129 rfl ?_
  refine r_iconst k_35_130 ci_2 ?_
  refine r_callv2 m_35 k_35_131 cl_3_52 m_33 (by decide) rfl rfl (Nat.le_of_ble_eq_true rfl) (Nat.le_of_ble_eq_true rfl) rfl rfl ?_
  refine s_33 ?_
  rw [show (hm_uM (hm_uM k 51 (fun _ => k 51 0 ||| nI 1 <<< (nI (9 + x) &&& 31))) (60 + 4 * q + cl) (upd (k (60 + 4 * q + cl)) 4 (k (60 + 4 * q + cl) 4 ||| nI 1 <<< (nI x &&& 31)))) 47 0 = k 47 0 by rw [show (hm_uM (hm_uM k 51 (fun _ => k 51 0 ||| nI 1 <<< (nI (9 + x) &&& 31))) (60 + 4 * q + cl) (upd (k (60 + 4 * q + cl)) 4 (k (60 + 4 * q + cl) 4 ||| nI 1 <<< (nI x &&& 31)))) 47 = k 47 from (if_neg (by omega)).trans rfl]]
  exact hm_T.ret m_35 k_35_134 rfl hQ
theorem hm_fig_c {T : Nat → Int32} {N a : Nat} : (if 48 ≤ (hm_c T N a).toInt ∧ (hm_c T N a).toInt ≤ 57 then (1 : Int32) else 0) = hm_bi (hm_fig T N a) := by
  rw [hm_figc]
  by_cases h : 48 ≤ (hm_c T N a).toInt ∧ (hm_c T N a).toInt ≤ 57
  · rw [if_pos h, decide_eq_true h]; rfl
  · rw [if_neg h, decide_eq_false h]; rfl
set_option maxRecDepth 20000 in
theorem l_38 {d n s : Nat} {k : hm_M} {ad : hm_AD} {w : hm_W} {h : Nat → Option va_E} {Q : Option Value → hm_H → Prop} {N a : Nat} (hN : k 7 0 = nI N) (hN1 : N ≤ 100) (ha : k 47 0 = nI a) (ha1 : a ≤ 100) {q cl bd : Nat} (hq : q < 5) (hcl : k 48 0 = nI cl) (hcl4 : cl < 4) (hbd : k 49 0 = nI bd) (hbd5 : bd < 5) (h0 : hm_nf (k 6) N a = 0 → Q (some (.int (nI 1))) (hm_hC k ad w h n s)) (h4 : hm_nf (k 6) N a = 4 → Q (some (.int (nI 2))) (hm_hC k ad w h n s)) (h1 : ∀ j, hm_nf (k 6) N a = j → 0 < j → j < 4 → Q (some (.int (nI 0))) (hm_hC (hm_uM (hm_uM (hm_uM k (60 + 4 * q + cl) (upd (k (60 + 4 * q + cl)) bd (hm_nv (k 6) a j))) 47 (fun _ => nI (a + j))) 46 (fun _ => nI 2)) ad w h n s)) : ∀ (r j : Nat), j + r = 4 → (∀ i, i < j → hm_fig (k 6) N (a + i) = true) → hm_T (d + 1) 38 5 [.ref 27, .ref 25, .ref (hm_lb q), .int (hm_nv (k 6) a j), .int (nI j)] [] (hm_hC k ad w h n s) Q := by
  intro r
  induction r with
  | zero =>
    intro j hr hj
    have hn4 : hm_nf (k 6) N a = 4 := by
      unfold hm_nf
      rw [if_pos (show hm_fig (k 6) N a = true from hj 0 (by omega)), if_pos (hj 1 (by omega)), if_pos (hj 2 (by omega)), if_pos (hj 3 (by omega))]
    refine r_iload k_38_5 rfl ?_
    refine r_iconst k_38_7 ci_3 ?_
    refine r_icmp_gt k_38_8 rfl (fun c_8 => ?_) (fun z => absurd (nI_lt (show 3 < j by omega) (by omega)) z)
    refine r_iload k_38_54 rfl ?_
    refine r_if_ne k_38_56 rfl (fun c_56 => ?_) (fun z => absurd (fun z => absurd (hm_nIinj (b := 0) z (by omega)) (by omega)) z)
    refine r_iload k_38_61 rfl ?_
    refine r_iconst k_38_63 ci_3 ?_
    refine r_icmp_le k_38_64 rfl (fun z => absurd z (nI_ge (a := 3) (b := j) (by omega) (by omega))) (fun c_64 => ?_)
    refine r_iconst k_38_67 ci_2 ?_
    exact hm_T.ret m_38 k_38_68 rfl (h4 hn4)
  | succ r ih =>
    intro j hr hj
    refine r_iload k_38_5 rfl ?_
    refine r_iconst k_38_7 ci_3 ?_
    refine r_icmp_gt k_38_8 rfl (fun z => absurd z (Int32.not_lt.mpr (nI_le (show j ≤ 3 by omega) (by omega)))) (fun c_8 => ?_)
    refine r_aload_n k_38_11 rfl ?_
    refine r_aload_n k_38_12 rfl ?_
    refine r_get m_38 k_38_13 fl_3_26 rfl rfl ?_
    rw [ha]
    refine r_iload k_38_16 rfl ?_
    refine r_iadd k_38_18 ?_
    rw [nI_add]
    refine r_callv2 m_38 k_38_19 cl_3_34 m_28 (by decide) rfl rfl (Nat.le_of_ble_eq_true rfl) (Nat.le_of_ble_eq_true rfl) rfl rfl ?_
    refine s_28 hN hN1 (a := a + j) (by omega) ?_
    refine r_calls1 m_38 k_38_22 cl_3_85 m_39 (by decide) rfl rfl (Nat.le_of_ble_eq_true rfl) (Nat.le_of_ble_eq_true rfl) ?_
    refine s_39 ?_
    rw [hm_fig_c]
    refine r_if_eq k_38_25 rfl (fun c_25 => ?_) (fun c_25 => ?_)
    · have c_25 := hm_bi0 c_25
      have hnf := hm_nf_j hj (c_25)
      by_cases hj0 : j = 0
      · subst hj0
        refine r_iload k_38_54 rfl ?_
        refine r_if_ne k_38_56 rfl (fun z => absurd z (fun z => z rfl)) (fun c_56 => ?_)
        refine r_iconst k_38_59 ci_1 ?_
        exact hm_T.ret m_38 k_38_60 rfl (h0 (hnf.1 (by omega)))
      · skip
        refine r_iload k_38_54 rfl ?_
        refine r_if_ne k_38_56 rfl (fun c_56 => ?_) (fun z => absurd (fun z => hj0 (hm_nIinj (b := 0) z (by omega))) z)
        refine r_iload k_38_61 rfl ?_
        refine r_iconst k_38_63 ci_3 ?_
        refine r_icmp_le k_38_64 rfl (fun c_64 => ?_) (fun z => absurd (nI_le (show j ≤ 3 by omega) (by omega)) z)
        refine r_aload_n k_38_69 rfl ?_
        refine r_aload_n k_38_70 rfl ?_
        refine r_get m_38 k_38_71 fl_3_72 rfl rfl ?_
        rw [hcl]
        refine r_aload_n k_38_74 rfl ?_
        refine r_get m_38 k_38_75 fl_3_75 rfl rfl ?_
        rw [hbd]
        refine r_iload_n k_38_78 rfl ?_
        refine r_callv4 m_38 k_38_79 cl_3_78 m_36 (by decide) rfl rfl (Nat.le_of_ble_eq_true rfl) (Nat.le_of_ble_eq_true rfl) (rC_l0 hq) rfl ?_
        refine s_36 hq hcl4 (i := bd) hbd5 ?_
        refine r_aload_n k_38_82 rfl ?_
        refine r_dup k_38_83 rfl ?_
        refine r_get m_38 k_38_84 fl_3_26 rfl rfl ?_
        rw [show (hm_uM k (60 + 4 * q + cl) (upd (k (60 + 4 * q + cl)) bd (hm_nv (k 6) a j))) 47 0 = nI a by rw [show (hm_uM k (60 + 4 * q + cl) (upd (k (60 + 4 * q + cl)) bd (hm_nv (k 6) a j))) 47 = k 47 from if_neg (by omega)]; exact ha]
        refine r_iload k_38_87 rfl ?_
        refine r_iadd k_38_89 ?_
        rw [nI_add]
        refine r_put m_38 k_38_90 fl_3_26 rfl (Nat.le_of_ble_eq_true rfl) rfl rfl (wC_47 _) ?_
        refine r_aload_n k_38_93 rfl ?_
        refine r_iconst k_38_94 ci_2 ?_
        refine r_put m_38 k_38_95 fl_3_20 rfl (Nat.le_of_ble_eq_true rfl) rfl rfl (wC_46 _) ?_
        refine r_iconst k_38_98 ci_0 ?_
        exact hm_T.ret m_38 k_38_99 rfl (h1 j (hnf.1 (by omega)) (by omega) (by omega))
    · have c_25 := hm_bi1 c_25
      refine r_iload_n k_38_28 rfl ?_
      refine r_bipush k_38_29 cb_10 ?_
      refine r_imul k_38_31 ?_
      refine r_aload_n k_38_32 rfl ?_
      refine r_aload_n k_38_33 rfl ?_
      refine r_get m_38 k_38_34 fl_3_26 rfl rfl ?_
      rw [ha]
      refine r_iload k_38_37 rfl ?_
      refine r_iadd k_38_39 ?_
      rw [nI_add]
      refine r_callv2 m_38 k_38_40 cl_3_34 m_28 (by decide) rfl rfl (Nat.le_of_ble_eq_true rfl) (Nat.le_of_ble_eq_true rfl) rfl rfl ?_
      refine s_28 hN hN1 (a := a + j) (by omega) ?_
      refine r_iadd k_38_43 ?_
      refine r_bipush k_38_44 cb_48 ?_
      refine r_isub k_38_46 ?_
      refine r_istore_n k_38_47 rfl ?_
      refine r_iincn k_38_48 rfl (nI_inc j) rfl ?_
      refine r_goto k_38_51 rfl ?_
      have hlt : a + j < N := by
        rcases Nat.lt_or_ge (a + j) N with h1 | h1
        · exact h1
        · rw [hm_figo h1] at c_25; cases c_25
      rw [show hm_c (k 6) N (a + j) = k 6 (a + j) from if_pos hlt, Int32.mul_comm]
      exact ih (j + 1) (by omega) (fun i hi => by
        rcases Nat.lt_or_ge i j with h | h
        · exact hj i h
        · rw [show i = j by omega]; exact c_25)
set_option maxRecDepth 20000 in
theorem s_38 {d n s : Nat} {k : hm_M} {ad : hm_AD} {w : hm_W} {h : Nat → Option va_E} {Q : Option Value → hm_H → Prop} {N a : Nat} (hN : k 7 0 = nI N) (hN1 : N ≤ 100) (ha : k 47 0 = nI a) (ha1 : a ≤ 100) {q cl bd : Nat} (hq : q < 5) (hcl : k 48 0 = nI cl) (hcl4 : cl < 4) (hbd : k 49 0 = nI bd) (hbd5 : bd < 5) (h0 : hm_nf (k 6) N a = 0 → Q (some (.int (nI 1))) (hm_hC k ad w h n s)) (h4 : hm_nf (k 6) N a = 4 → Q (some (.int (nI 2))) (hm_hC k ad w h n s)) (h1 : ∀ j, hm_nf (k 6) N a = j → 0 < j → j < 4 → Q (some (.int (nI 0))) (hm_hC (hm_uM (hm_uM (hm_uM k (60 + 4 * q + cl) (upd (k (60 + 4 * q + cl)) bd (hm_nv (k 6) a j))) 47 (fun _ => nI (a + j))) 46 (fun _ => nI 2)) ad w h n s)) : hm_T (d + 1) 38 0 [.ref 27, .ref 25, .ref (hm_lb q), .retAddr 0, .retAddr 0] [] (hm_hC k ad w h n s) Q := by
  refine r_iconst k_38_0 ci_0 ?_
  refine r_istore_n k_38_1 rfl ?_
  refine r_iconst k_38_2 ci_0 ?_
  refine r_istore k_38_3 rfl ?_
  exact l_38 hN hN1 ha ha1 hq hcl hcl4 hbd hbd5 h0 h4 h1 4 0 (by omega) (fun i hi => absurd hi (by omega))
