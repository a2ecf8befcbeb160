def hc_gcc (g : Nat → Nat × Nat) (e : Nat) : Nat → Nat × Nat := fun j => if j = e then (5, 0) else if 5 ≤ (g j).1 ∧ (g j).2 = 0 then (0, 0) else g j
theorem hc_gcc_o {g : Nat → Nat × Nat} {e j : Nat} (hj : ¬ j = e) (h0 : (hc_gcc g e j).1 ≠ 0) : hc_gcc g e j = g j ∧ ¬ (5 ≤ (g j).1 ∧ (g j).2 = 0) := by
  have e1 : hc_gcc g e j = (if 5 ≤ (g j).1 ∧ (g j).2 = 0 then (0, 0) else g j) := if_neg hj
  by_cases hc : 5 ≤ (g j).1 ∧ (g j).2 = 0
  · rw [e1, if_pos hc] at h0
    exact absurd rfl h0
  · exact ⟨by rw [e1, if_neg hc], hc⟩
set_option maxRecDepth 20000 in
theorem s_67cA {d n s : Nat} {k : hm_M} {ad : hm_AD} {g : Nat → Nat × Nat} {w : hm_W} {nc np : Nat} {h : Nat → Option va_E} {Q : Option Value → hm_H → Prop} (X : hm_D k ad g nc np n h) (h16 : nc < 16) (hg : g (ad 3 0) = (5, 0)) (hlt : nc < ad 3 1) (h100 : ad 3 1 ≤ 100) (h2c : ad 3 2 = nc) (hb : g (ad 1 nc) = (1, nc) ∧ g (ad 1 nc + 1) = (2, nc) ∧ g (ad 1 nc + 2) = (3, nc)) (hfa : ∃ f, k 10 nc = nI f ∧ f < 4) (hQ : ∀ A2 g2 h2 n2 s2, hm_D (hm_uM k 9 (fun _ => nI (nc + 1))) A2 g2 (nc + 1) np n2 h2 → hm_lo h h2 → (∀ i, ¬ i = 3 → A2 i = ad i) → n ≤ n2 → n2 ≤ n + 1 → s ≤ s2 → s2 ≤ s + 40 → Q none (hm_hC (hm_uM k 9 (fun _ => nI (nc + 1))) A2 w h2 n2 s2)) : hm_T d 67 0 [.ref 35, .ref (ad 1 nc), .ref (ad 3 0), .int (nI nc)] [] (hm_hC k ad w h n s) Q := by
  have hra := X.rg (ad 3 0) (by rw [hg]; exact (show (5 : Nat) ≠ 0 by decide))
  have hrd : (hm_hC k ad w h n s).1 (ad 3 0) = some (.inl (6, ad 3 1, .inr (.inr (.inr (.inr (hm_la (ad 3) (ad 1))))))) := hm_rd X hg (fun z => Nat.noConfusion z)
  have hD := hc_Dc X h16 hb hfa (A2 := (hc_ua ad 3 2 (nc + 1))) (g2 := (hc_gcc g (ad 3 0))) (h2 := hm_up h (ad 3 0) (.inl (6, ad 3 1, .inr (.inr (.inr (.inr (va_up (hm_la (ad 3) (ad 1)) nc (some (ad 1 nc))))))))) (n2 := n) (cap := ad 3 1) (E := (.inl (6, ad 3 1, .inr (.inr (.inr (.inr (va_up (hm_la (ad 3) (ad 1)) nc (some (ad 1 nc))))))))) (fun i hi => hc_ua_o hi) rfl rfl (by omega) h100 (if_pos rfl) (fun j hj hj0 => hc_gcc_o hj hj0) (fun j h1 h2 => (if_neg (fun z => h1 (by rw [z, hg]; decide))).trans (if_neg h1)) (by
    rw [hc_la_c (m := nc) (c1 := 0) (e1 := 0) (hc_ua ad 3 2 (nc + 1)) rfl (hc_ua_o (by decide)) (hm_la (ad 3) (ad 1)) (fun j => by show (if j < ad 3 2 then _ else _) = _; rw [h2c])]) rfl (Nat.le_refl _) hra
  refine r_iload_n k_67_0 rfl ?_
  refine r_aload_n k_67_1 rfl ?_
  refine r_alen (v := nI (ad 3 1)) k_67_2 hrd rfl ?_
  refine r_icmp_ne k_67_3 rfl (fun c_3 => ?_) (fun z => absurd (fun z => absurd (hm_nIinj z (by omega)) (by omega)) z)
  refine r_aload_n k_67_11 rfl ?_
  refine r_iload_n k_67_12 rfl ?_
  refine r_aload_n k_67_13 rfl ?_
  refine r_aastn (cj := 1) (k := nc) k_67_14 hrd ((hm_rd X hb.1 (fun z => Nat.noConfusion z)) : (hm_hC k ad w h n s).1 (ad 1 nc) = some (.inr (1, hm_cf k ad nc))) (Or.inr ⟨rfl, by decide⟩) rfl hlt (by omega) (wF (by omega)) ?_
  refine r_aload_n k_67_15 rfl ?_
  refine r_iload_n k_67_16 rfl ?_
  refine r_iconst k_67_17 ci_1 ?_
  refine r_iadd k_67_18 ?_
  rw [nI_add]
  refine r_put m_67 k_67_19 fl_9_48 rfl (Nat.le_of_ble_eq_true rfl) rfl rfl (wC_9 _) ?_
  exact hm_T.ret m_67 k_67_22 rfl (show Q none (hm_hC (hm_uM k 9 (fun _ => nI (nc + 1))) (hc_ua ad 3 2 (nc + 1)) w (hm_up h (ad 3 0) (.inl (6, ad 3 1, .inr (.inr (.inr (.inr (va_up (hm_la (ad 3) (ad 1)) nc (some (ad 1 nc))))))))) n s) from hQ (hc_ua ad 3 2 (nc + 1)) _ _ n s hD.1 hD.2 (fun i hi => hc_ua_o hi) (Nat.le_refl _) (by omega) (Nat.le_refl _) (by omega))
set_option maxRecDepth 20000 in
theorem s_69c0 {d n s : Nat} {k : hm_M} {ad : hm_AD} {g : Nat → Nat × Nat} {w : hm_W} {nc np : Nat} {h : Nat → Option va_E} {Q : Option Value → hm_H → Prop} (X : hm_D k ad g nc np n h) (hn80 : 80 ≤ n) (h30 : ad 3 0 = 3) (hQ : Q (some (.ref (n + 4))) (hm_hC k (hc_ua ad 3 0 (n + 4)) w (hm_up h (n + 4) (.inl (6, 10, .inr (.inr (.inr (.inr (fun _ => none))))))) (n + 1) (s + 10))) : hm_T (d + 1) 69 0 [.ref 35, .int (nI 1), .retAddr 0, .retAddr 0] [] (hm_hC k ad w h n s) Q := by
  refine r_aload_n k_69_0 rfl ?_
  refine r_get m_69 k_69_1 fl_9_9 rfl rfl ?_
  rw [h30]
  refine r_alen (v := nI 0) k_69_4 X.h3 rfl ?_
  refine r_istore_n k_69_5 rfl ?_
  refine r_iload_n k_69_6 rfl ?_
  refine r_if_gt k_69_7 rfl (fun z => absurd z (by decide)) (fun c_7 => ?_)
  refine r_aload_n k_69_10 rfl ?_
  refine r_get m_69 k_69_11 fl_9_9 rfl rfl ?_
  rw [h30]
  refine r_gets m_69 k_69_14 sl_9_39 ?_
  refine r_acmp_eq k_69_17 rfl ?_
  refine r_aload_n k_69_45 rfl ?_
  refine r_bipush k_69_46 cb_10 ?_
  refine r_iload_n k_69_48 rfl ?_
  refine r_calls2 m_69 k_69_49 cl_9_79 m_15 (by decide) rfl rfl (Nat.le_of_ble_eq_true rfl) (Nat.le_of_ble_eq_true rfl) ?_
  refine s_15 ?_
  rw [if_neg (by decide)]
  refine r_anew (N := 10) m_69 k_69_52 nl_9_7 (Or.inr rfl) rfl (by decide) (nI_clamp (by decide)) (by decide) (hm_pushF (by omega)) ?_
  refine r_dup_x1 k_69_55 rfl rfl ?_
  refine r_put m_69 k_69_56 fl_9_9 rfl (Nat.le_of_ble_eq_true rfl) rfl rfl (wC_e3 _) ?_
  exact hm_T.ret m_69 k_69_59 rfl hQ
set_option maxRecDepth 20000 in
theorem s_69c1 {d n s : Nat} {k : hm_M} {ad : hm_AD} {g : Nat → Nat × Nat} {w : hm_W} {nc np : Nat} {h : Nat → Option va_E} {Q : Option Value → hm_H → Prop} (X : hm_D k ad g nc np n h) (hn80 : 80 ≤ n) (h16 : nc < 16) (h0 : 0 < nc) (hg : g (ad 3 0) = (5, 0)) (hcap : ad 3 1 = nc) (h2c : ad 3 2 = nc) (hQ : Q (some (.ref (n + 4))) (hm_hC k (hc_ua ad 3 0 (n + 4)) w (hm_up h (n + 4) (.inl (6, (hc_nl nc), .inr (.inr (.inr (.inr (fun j => if j < nc then hm_la (ad 3) (ad 1) j else none))))))) (n + 1) (s + (hc_nl nc)))) : hm_T (d + 5) 69 0 [.ref 35, .int (nI (nc + 1)), .retAddr 0, .retAddr 0] [] (hm_hC k ad w h n s) Q := by
  have hrd : (hm_hC k ad w h n s).1 (ad 3 0) = some (.inl (6, nc, .inr (.inr (.inr (.inr (hm_la (ad 3) (ad 1))))))) := by
    rw [← hcap]
    exact hm_rd X hg (fun z => Nat.noConfusion z)
  have hl : (hc_nl nc) ≤ 64 := by unfold hc_nl; split <;> omega
  have hl2 : nc ≤ (hc_nl nc) := by unfold hc_nl; omega
  have hob : hm_objs (hm_hC k ad w h n s) (hm_la (ad 3) (ad 1)) nc = true := by
    unfold hm_objs
    rw [List.all_eq_true]
    intro j hj
    have hj2 : j < nc := List.mem_range.mp hj
    rw [show (hm_la (ad 3) (ad 1)) j = some (ad 1 j) from if_pos (by rw [h2c]; exact hj2)]
    show (match (hm_hC k ad w h n s).1 (ad 1 j) with | some (.inr (cj, _)) => decide (cj < 10) | _ => false) = true
    rw [rD_1 X hj2]
    rfl
  refine r_aload_n k_69_0 rfl ?_
  refine r_get m_69 k_69_1 fl_9_9 rfl rfl ?_
  refine r_alen (v := nI nc) k_69_4 hrd rfl ?_
  refine r_istore_n k_69_5 rfl ?_
  refine r_iload_n k_69_6 rfl ?_
  refine r_if_gt k_69_7 rfl (fun c_7 => ?_) (fun z => absurd (nI_lt (a := 0) h0 (by omega)) z)
  refine r_iload_n k_69_20 rfl ?_
  refine r_iload_n k_69_21 rfl ?_
  refine r_iload_n k_69_22 rfl ?_
  refine r_isub k_69_23 ?_
  rw [hm_nIsub (show nc + 1 = nc + 1 from rfl)]
  refine r_iload_n k_69_24 rfl ?_
  refine r_iconst k_69_25 ci_1 ?_
  refine r_ishr k_69_26 ?_
  rw [hc_shr ⟨nc, by omega⟩]
  refine r_calls3 m_69 k_69_27 cl_9_73 m_70 (by decide) rfl rfl (Nat.le_of_ble_eq_true rfl) (Nat.le_of_ble_eq_true rfl) ?_
  refine s_70 (c := nc) (by omega) ?_
  refine r_istore_n k_69_30 rfl ?_
  refine r_aload_n k_69_31 rfl ?_
  refine r_aload_n k_69_32 rfl ?_
  refine r_get m_69 k_69_33 fl_9_9 rfl rfl ?_
  refine r_iload_n k_69_36 rfl ?_
  refine r_copy m_69 k_69_37 cl_9_66 hrd (by omega) hl2 (Nat.le_of_ble_eq_true rfl) hob (hm_pushF (by omega)) (by omega) ?_
  refine r_dup_x1 k_69_40 rfl rfl ?_
  refine r_put m_69 k_69_41 fl_9_9 rfl (Nat.le_of_ble_eq_true rfl) rfl rfl (wC_e3 _) ?_
  exact hm_T.ret m_69 k_69_44 rfl hQ
set_option maxRecDepth 20000 in
theorem s_67cB0 {d n s : Nat} {k : hm_M} {ad : hm_AD} {g : Nat → Nat × Nat} {w : hm_W} {nc np : Nat} {h : Nat → Option va_E} {Q : Option Value → hm_H → Prop} (X : hm_D k ad g nc np n h) (hn80 : 80 ≤ n) (h16 : nc < 16) (h30 : ad 3 0 = 3) (hz : nc = 0) (hb : g (ad 1 nc) = (1, nc) ∧ g (ad 1 nc + 1) = (2, nc) ∧ g (ad 1 nc + 2) = (3, nc)) (hfa : ∃ f, k 10 nc = nI f ∧ f < 4) (hQ : ∀ A2 g2 h2 n2 s2, hm_D (hm_uM k 9 (fun _ => nI (nc + 1))) A2 g2 (nc + 1) np n2 h2 → hm_lo h h2 → (∀ i, ¬ i = 3 → A2 i = ad i) → n ≤ n2 → n2 ≤ n + 1 → s ≤ s2 → s2 ≤ s + 40 → Q none (hm_hC (hm_uM k 9 (fun _ => nI (nc + 1))) A2 w h2 n2 s2)) : hm_T (d + 7) 67 0 [.ref 35, .ref (ad 1 nc), .ref (ad 3 0), .int (nI nc)] [] (hm_hC k ad w h n s) Q := by
  have hl : 10 ≤ 40 ∧ nc + 1 ≤ 10 := by omega
  have hbr := X.rg (ad 1 nc) (by rw [hb.1]; exact (show (1 : Nat) ≠ 0 by decide))
  have hob : ∀ A s2, (hm_hC k A w (hm_up h (n + 4) (.inl (6, 10, .inr (.inr (.inr (.inr (fun _ => none))))))) (n + 1) s2).1 (ad 1 nc) = some (.inr (1, hm_cf k ad nc)) := fun A s2 => (rF (by omega)).trans ((hm_up_o (by omega)).trans ((X.at (ad 1 nc) (by rw [hb.1]; exact (show (1 : Nat) ≠ 0 by decide))).trans (by rw [hb.1]; rfl)))
  have hD := hc_Dc X h16 hb hfa (A2 := (hc_ua (hc_ua (hc_ua ad 3 0 (n + 4)) 3 1 10) 3 2 (nc + 1))) (g2 := (hc_gcc g (n + 4))) (h2 := hm_up h (n + 4) (.inl (6, 10, .inr (.inr (.inr (.inr (va_up (fun _ => none) nc (some (ad 1 nc))))))))) (n2 := n + 1) (cap := 10) (E := (.inl (6, 10, .inr (.inr (.inr (.inr (va_up (fun _ => none) nc (some (ad 1 nc))))))))) (fun i hi => (hc_ua_o hi).trans ((hc_ua_o hi).trans (hc_ua_o hi))) rfl rfl hl.2 (by omega) (if_pos rfl) (fun j hj hj0 => hc_gcc_o hj hj0) (fun j h1 h2 => (if_neg (show ¬ j = n + 4 from fun z => by have := X.rg j h2; omega)).trans (if_neg h1)) (by
    rw [hc_la_c (m := nc) (c1 := 0) (e1 := 0) (hc_ua (hc_ua (hc_ua ad 3 0 (n + 4)) 3 1 10) 3 2 (nc + 1)) rfl ((hc_ua_o (by decide)).trans ((hc_ua_o (by decide)).trans (hc_ua_o (by decide)))) (fun _ => none) (fun j => (if_neg (by omega)).symm)]) rfl (by omega) (show 84 ≤ n + 4 ∧ n + 4 < n + 1 + 4 by omega)
  refine r_iload_n k_67_0 rfl ?_
  refine r_aload_n k_67_1 rfl ?_
  refine r_alen (v := nI 0) k_67_2 (show (hm_hC k ad w h n s).1 (ad 3 0) = some (.inl (101, 0, .inr (.inr (.inr (.inr (fun _ => none)))))) by rw [h30]; exact X.h3) rfl ?_
  refine r_icmp_ne k_67_3 rfl (fun z => absurd z (fun z => z (by rw [hz]))) (fun c_3 => ?_)
  refine r_aload_n k_67_6 rfl ?_
  refine r_callv1 m_67 k_67_7 cl_9_129 m_68 (by decide) rfl rfl (Nat.le_of_ble_eq_true rfl) (Nat.le_of_ble_eq_true rfl) rfl rfl ?_
  refine r_aload_n k_68_0 rfl ?_
  refine r_aload_n k_68_1 rfl ?_
  refine r_get m_68 k_68_2 fl_9_48 rfl rfl ?_
  rw [X.nc]
  refine r_iconst k_68_5 ci_1 ?_
  refine r_iadd k_68_6 ?_
  rw [nI_add, show nI (nc + 1) = nI 1 by rw [hz]]
  refine r_callv2 m_68 k_68_7 cl_9_69 m_69 (by decide) rfl rfl (Nat.le_of_ble_eq_true rfl) (Nat.le_of_ble_eq_true rfl) rfl rfl ?_
  refine s_69c0 X hn80 h30 ?_
  refine hm_T.ret m_68 k_68_10 rfl ?_
  refine r_astore_n k_67_10 rfl ?_
  refine r_aload_n k_67_11 rfl ?_
  refine r_iload_n k_67_12 rfl ?_
  refine r_aload_n k_67_13 rfl ?_
  refine r_aastn (cj := 1) (k := nc) k_67_14 (r1o (by omega)) (hob _ _) (Or.inr ⟨rfl, by decide⟩) rfl (by omega) (by omega) (w1o (by omega)) ?_
  refine r_aload_n k_67_15 rfl ?_
  refine r_iload_n k_67_16 rfl ?_
  refine r_iconst k_67_17 ci_1 ?_
  refine r_iadd k_67_18 ?_
  rw [nI_add]
  refine r_put m_67 k_67_19 fl_9_48 rfl (Nat.le_of_ble_eq_true rfl) rfl rfl (wC_9 _) ?_
  exact hm_T.ret m_67 k_67_22 rfl (show Q none (hm_hC (hm_uM k 9 (fun _ => nI (nc + 1))) (hc_ua (hc_ua (hc_ua ad 3 0 (n + 4)) 3 1 10) 3 2 (nc + 1)) w (hm_up h (n + 4) (.inl (6, 10, .inr (.inr (.inr (.inr (va_up (fun _ => none) nc (some (ad 1 nc))))))))) (n + 1) (s + 10)) from hQ (hc_ua (hc_ua (hc_ua ad 3 0 (n + 4)) 3 1 10) 3 2 (nc + 1)) _ _ (n + 1) (s + 10) hD.1 hD.2 (fun i hi => (hc_ua_o hi).trans ((hc_ua_o hi).trans (hc_ua_o hi))) (by omega) (Nat.le_refl _) (by omega) (by omega))
set_option maxRecDepth 20000 in
theorem s_67cB1 {d n s : Nat} {k : hm_M} {ad : hm_AD} {g : Nat → Nat × Nat} {w : hm_W} {nc np : Nat} {h : Nat → Option va_E} {Q : Option Value → hm_H → Prop} (X : hm_D k ad g nc np n h) (hn80 : 80 ≤ n) (h16 : nc < 16) (h0 : 0 < nc) (hg : g (ad 3 0) = (5, 0)) (hcap : ad 3 1 = nc) (h2c : ad 3 2 = nc) (hb : g (ad 1 nc) = (1, nc) ∧ g (ad 1 nc + 1) = (2, nc) ∧ g (ad 1 nc + 2) = (3, nc)) (hfa : ∃ f, k 10 nc = nI f ∧ f < 4) (hQ : ∀ A2 g2 h2 n2 s2, hm_D (hm_uM k 9 (fun _ => nI (nc + 1))) A2 g2 (nc + 1) np n2 h2 → hm_lo h h2 → (∀ i, ¬ i = 3 → A2 i = ad i) → n ≤ n2 → n2 ≤ n + 1 → s ≤ s2 → s2 ≤ s + 40 → Q none (hm_hC (hm_uM k 9 (fun _ => nI (nc + 1))) A2 w h2 n2 s2)) : hm_T (d + 7) 67 0 [.ref 35, .ref (ad 1 nc), .ref (ad 3 0), .int (nI nc)] [] (hm_hC k ad w h n s) Q := by
  have hl : (hc_nl nc) ≤ 40 ∧ nc + 1 ≤ (hc_nl nc) := by unfold hc_nl; constructor <;> (split <;> omega)
  have hbr := X.rg (ad 1 nc) (by rw [hb.1]; exact (show (1 : Nat) ≠ 0 by decide))
  have hob : ∀ A s2, (hm_hC k A w (hm_up h (n + 4) (.inl (6, (hc_nl nc), .inr (.inr (.inr (.inr (fun j => if j < nc then hm_la (ad 3) (ad 1) j else none))))))) (n + 1) s2).1 (ad 1 nc) = some (.inr (1, hm_cf k ad nc)) := fun A s2 => (rF (by omega)).trans ((hm_up_o (by omega)).trans ((X.at (ad 1 nc) (by rw [hb.1]; exact (show (1 : Nat) ≠ 0 by decide))).trans (by rw [hb.1]; rfl)))
  have hD := hc_Dc X h16 hb hfa (A2 := (hc_ua (hc_ua (hc_ua ad 3 0 (n + 4)) 3 1 (hc_nl nc)) 3 2 (nc + 1))) (g2 := (hc_gcc g (n + 4))) (h2 := hm_up h (n + 4) (.inl (6, (hc_nl nc), .inr (.inr (.inr (.inr (va_up (fun j => if j < nc then hm_la (ad 3) (ad 1) j else none) nc (some (ad 1 nc))))))))) (n2 := n + 1) (cap := (hc_nl nc)) (E := (.inl (6, (hc_nl nc), .inr (.inr (.inr (.inr (va_up (fun j => if j < nc then hm_la (ad 3) (ad 1) j else none) nc (some (ad 1 nc))))))))) (fun i hi => (hc_ua_o hi).trans ((hc_ua_o hi).trans (hc_ua_o hi))) rfl rfl hl.2 (by omega) (if_pos rfl) (fun j hj hj0 => hc_gcc_o hj hj0) (fun j h1 h2 => (if_neg (show ¬ j = n + 4 from fun z => by have := X.rg j h2; omega)).trans (if_neg h1)) (by
    rw [hc_la_c (m := nc) (c1 := 0) (e1 := 0) (hc_ua (hc_ua (hc_ua ad 3 0 (n + 4)) 3 1 (hc_nl nc)) 3 2 (nc + 1)) rfl ((hc_ua_o (by decide)).trans ((hc_ua_o (by decide)).trans (hc_ua_o (by decide)))) (fun j => if j < nc then hm_la (ad 3) (ad 1) j else none) (fun j => by by_cases hj : j < nc; (rw [if_pos hj, if_pos hj]; exact if_pos (by rw [h2c]; exact hj)); (rw [if_neg hj, if_neg hj]))]) rfl (by omega) (show 84 ≤ n + 4 ∧ n + 4 < n + 1 + 4 by omega)
  refine r_iload_n k_67_0 rfl ?_
  refine r_aload_n k_67_1 rfl ?_
  refine r_alen (v := nI (ad 3 1)) k_67_2 ((hm_rd X hg (fun z => Nat.noConfusion z)) : (hm_hC k ad w h n s).1 (ad 3 0) = some (.inl (6, ad 3 1, .inr (.inr (.inr (.inr (hm_la (ad 3) (ad 1)))))))) rfl ?_
  refine r_icmp_ne k_67_3 rfl (fun z => absurd z (fun z => z (by rw [hcap]))) (fun c_3 => ?_)
  refine r_aload_n k_67_6 rfl ?_
  refine r_callv1 m_67 k_67_7 cl_9_129 m_68 (by decide) rfl rfl (Nat.le_of_ble_eq_true rfl) (Nat.le_of_ble_eq_true rfl) rfl rfl ?_
  refine r_aload_n k_68_0 rfl ?_
  refine r_aload_n k_68_1 rfl ?_
  refine r_get m_68 k_68_2 fl_9_48 rfl rfl ?_
  rw [X.nc]
  refine r_iconst k_68_5 ci_1 ?_
  refine r_iadd k_68_6 ?_
  rw [nI_add]
  refine r_callv2 m_68 k_68_7 cl_9_69 m_69 (by decide) rfl rfl (Nat.le_of_ble_eq_true rfl) (Nat.le_of_ble_eq_true rfl) rfl rfl ?_
  refine s_69c1 X hn80 h16 h0 hg hcap h2c ?_
  refine hm_T.ret m_68 k_68_10 rfl ?_
  refine r_astore_n k_67_10 rfl ?_
  refine r_aload_n k_67_11 rfl ?_
  refine r_iload_n k_67_12 rfl ?_
  refine r_aload_n k_67_13 rfl ?_
  refine r_aastn (cj := 1) (k := nc) k_67_14 (r1o (by omega)) (hob _ _) (Or.inr ⟨rfl, by decide⟩) rfl (by omega) (by omega) (w1o (by omega)) ?_
  refine r_aload_n k_67_15 rfl ?_
  refine r_iload_n k_67_16 rfl ?_
  refine r_iconst k_67_17 ci_1 ?_
  refine r_iadd k_67_18 ?_
  rw [nI_add]
  refine r_put m_67 k_67_19 fl_9_48 rfl (Nat.le_of_ble_eq_true rfl) rfl rfl (wC_9 _) ?_
  exact hm_T.ret m_67 k_67_22 rfl (show Q none (hm_hC (hm_uM k 9 (fun _ => nI (nc + 1))) (hc_ua (hc_ua (hc_ua ad 3 0 (n + 4)) 3 1 (hc_nl nc)) 3 2 (nc + 1)) w (hm_up h (n + 4) (.inl (6, (hc_nl nc), .inr (.inr (.inr (.inr (va_up (fun j => if j < nc then hm_la (ad 3) (ad 1) j else none) nc (some (ad 1 nc))))))))) (n + 1) (s + (hc_nl nc))) from hQ (hc_ua (hc_ua (hc_ua ad 3 0 (n + 4)) 3 1 (hc_nl nc)) 3 2 (nc + 1)) _ _ (n + 1) (s + (hc_nl nc)) hD.1 hD.2 (fun i hi => (hc_ua_o hi).trans ((hc_ua_o hi).trans (hc_ua_o hi))) (by omega) (Nat.le_refl _) (by omega) (by omega))
set_option maxRecDepth 20000 in
theorem s_66c {d n s : Nat} {k : hm_M} {ad : hm_AD} {g : Nat → Nat × Nat} {w : hm_W} {nc np : Nat} {h : Nat → Option va_E} {Q : Option Value → hm_H → Prop} (X : hm_D k ad g nc np n h) (hn80 : 80 ≤ n) (h16 : nc < 16) (hb : g (ad 1 nc) = (1, nc) ∧ g (ad 1 nc + 1) = (2, nc) ∧ g (ad 1 nc + 2) = (3, nc)) (hfa : ∃ f, k 10 nc = nI f ∧ f < 4) (hQ : ∀ A2 g2 h2 n2 s2, hm_D (hm_uM (hm_uM k 52 (fun _ => k 52 0 + nI 1)) 9 (fun _ => nI (nc + 1))) A2 g2 (nc + 1) np n2 h2 → hm_lo h h2 → (∀ i, ¬ i = 3 → A2 i = ad i) → n ≤ n2 → n2 ≤ n + 1 → s ≤ s2 → s2 ≤ s + 40 → Q (some (.int (nI 1))) (hm_hC (hm_uM (hm_uM k 52 (fun _ => k 52 0 + nI 1)) 9 (fun _ => nI (nc + 1))) A2 w h2 n2 s2)) : hm_T (d + 8) 66 0 [.ref 35, .ref (ad 1 nc)] [] (hm_hC k ad w h n s) Q := by
  have X2 : hm_D (hm_uM k 52 (fun _ => k 52 0 + nI 1)) ad g nc np n h := X.st (fun j hj => if_neg (by omega)) ⟨rfl, rfl, rfl, rfl, rfl, rfl, rfl, rfl, rfl, rfl, rfl, rfl, rfl⟩
  refine r_aload_n k_66_0 rfl ?_
  refine r_dup k_66_1 rfl ?_
  refine r_get m_66 k_66_2 fl_9_63 rfl rfl ?_
  refine r_iconst k_66_5 ci_1 ?_
  refine r_iadd k_66_6 ?_
  refine r_put m_66 k_66_7 fl_9_63 rfl (Nat.le_of_ble_eq_true rfl) rfl rfl (wC_52 _) ?_
  refine r_aload_n k_66_10 rfl ?_
  refine r_aload_n k_66_11 rfl ?_
  refine r_aload_n k_66_12 rfl ?_
  refine r_get m_66 k_66_13 fl_9_9 rfl rfl ?_
  refine r_aload_n k_66_16 rfl ?_
  refine r_get m_66 k_66_17 fl_9_48 rfl rfl ?_
  rw [show (hm_uM k 52 (fun _ => k 52 0 + nI 1)) 9 0 = nI nc from X2.nc]
  refine r_callv4 m_66 k_66_20 cl_9_131 m_67 (by decide) rfl rfl (Nat.le_of_ble_eq_true rfl) (Nat.le_of_ble_eq_true rfl) rfl rfl ?_
  rcases X.l1 with hl | hl
  · refine s_67cB0 X2 hn80 h16 hl.2.1 hl.1 hb hfa (fun A2 g2 h2 n2 s2 a1 a2 a3 a4 a5 a6 a7 => ?_)
    refine r_iconst k_66_23 ci_1 ?_
    exact hm_T.ret m_66 k_66_24 rfl (hQ A2 g2 h2 n2 s2 a1 a2 a3 a4 a5 a6 a7)
  · rcases Nat.lt_or_ge nc (ad 3 1) with hlt | hge
    · refine s_67cA X2 h16 hl.1 hlt hl.2.2.1 hl.2.2.2.1 hb hfa (fun A2 g2 h2 n2 s2 a1 a2 a3 a4 a5 a6 a7 => ?_)
      refine r_iconst k_66_23 ci_1 ?_
      exact hm_T.ret m_66 k_66_24 rfl (hQ A2 g2 h2 n2 s2 a1 a2 a3 a4 a5 a6 a7)
    · rcases Nat.eq_zero_or_pos nc with hz | hz
      · exact absurd hl.2.2.2.2 (by omega)
      · refine s_67cB1 X2 hn80 h16 hz hl.1 (by omega) hl.2.2.2.1 hb hfa (fun A2 g2 h2 n2 s2 a1 a2 a3 a4 a5 a6 a7 => ?_)
        refine r_iconst k_66_23 ci_1 ?_
        exact hm_T.ret m_66 k_66_24 rfl (hQ A2 g2 h2 n2 s2 a1 a2 a3 a4 a5 a6 a7)
def hc_gcq (g : Nat → Nat × Nat) (e : Nat) : Nat → Nat × Nat := fun j => if j = e then (5, 1) else if 5 ≤ (g j).1 ∧ ¬ (g j).2 = 0 then (0, 0) else g j
theorem hc_gcq_o {g : Nat → Nat × Nat} {e j : Nat} (hj : ¬ j = e) (h0 : (hc_gcq g e j).1 ≠ 0) : hc_gcq g e j = g j ∧ ¬ (5 ≤ (g j).1 ∧ ¬ (g j).2 = 0) := by
  have e1 : hc_gcq g e j = (if 5 ≤ (g j).1 ∧ ¬ (g j).2 = 0 then (0, 0) else g j) := if_neg hj
  by_cases hc : 5 ≤ (g j).1 ∧ ¬ (g j).2 = 0
  · rw [e1, if_pos hc] at h0
    exact absurd rfl h0
  · exact ⟨by rw [e1, if_neg hc], hc⟩
set_option maxRecDepth 20000 in
theorem s_67qA {d n s : Nat} {k : hm_M} {ad : hm_AD} {g : Nat → Nat × Nat} {w : hm_W} {nc np : Nat} {h : Nat → Option va_E} {Q : Option Value → hm_H → Prop} (X : hm_D k ad g nc np n h) (h16 : np < 16) (hg : g (ad 4 0) = (5, 1)) (hlt : np < ad 4 1) (h100 : ad 4 1 ≤ 100) (h2c : ad 4 2 = np) (hb : g (ad 2 np) = (4, np)) (hQ : ∀ A2 g2 h2 n2 s2, hm_D (hm_uM k 18 (fun _ => nI (np + 1))) A2 g2 nc (np + 1) n2 h2 → hm_lo h h2 → (∀ i, ¬ i = 4 → A2 i = ad i) → n ≤ n2 → n2 ≤ n + 1 → s ≤ s2 → s2 ≤ s + 40 → Q none (hm_hC (hm_uM k 18 (fun _ => nI (np + 1))) A2 w h2 n2 s2)) : hm_T d 67 0 [.ref 36, .ref (ad 2 np), .ref (ad 4 0), .int (nI np)] [] (hm_hC k ad w h n s) Q := by
  have hra := X.rg (ad 4 0) (by rw [hg]; exact (show (5 : Nat) ≠ 0 by decide))
  have hrd : (hm_hC k ad w h n s).1 (ad 4 0) = some (.inl (6, ad 4 1, .inr (.inr (.inr (.inr (hm_la (ad 4) (ad 2))))))) := hm_rd X hg (fun z => Nat.noConfusion z)
  have hD := hc_Dq X h16 hb (A2 := (hc_ua ad 4 2 (np + 1))) (g2 := (hc_gcq g (ad 4 0))) (h2 := hm_up h (ad 4 0) (.inl (6, ad 4 1, .inr (.inr (.inr (.inr (va_up (hm_la (ad 4) (ad 2)) np (some (ad 2 np))))))))) (n2 := n) (cap := ad 4 1) (E := (.inl (6, ad 4 1, .inr (.inr (.inr (.inr (va_up (hm_la (ad 4) (ad 2)) np (some (ad 2 np))))))))) (fun i hi => hc_ua_o hi) rfl rfl (by omega) h100 (if_pos rfl) (fun j hj hj0 => hc_gcq_o hj hj0) (fun j h1 h2 => (if_neg (fun z => h1 (by rw [z, hg]; decide))).trans (if_neg h1)) (by
    rw [hc_la_q (m := np) (c1 := 0) (e1 := 0) (hc_ua ad 4 2 (np + 1)) rfl (hc_ua_o (by decide)) (hm_la (ad 4) (ad 2)) (fun j => by show (if j < ad 4 2 then _ else _) = _; rw [h2c])]) rfl (Nat.le_refl _) hra
  refine r_iload_n k_67_0 rfl ?_
  refine r_aload_n k_67_1 rfl ?_
  refine r_alen (v := nI (ad 4 1)) k_67_2 hrd rfl ?_
  refine r_icmp_ne k_67_3 rfl (fun c_3 => ?_) (fun z => absurd (fun z => absurd (hm_nIinj z (by omega)) (by omega)) z)
  refine r_aload_n k_67_11 rfl ?_
  refine r_iload_n k_67_12 rfl ?_
  refine r_aload_n k_67_13 rfl ?_
  refine r_aastn (cj := 5) (k := np) k_67_14 hrd ((hm_rd X hb (fun z => Nat.noConfusion z)) : (hm_hC k ad w h n s).1 (ad 2 np) = some (.inr (5, hm_pf k np))) (Or.inr ⟨rfl, by decide⟩) rfl hlt (by omega) (wF (by omega)) ?_
  refine r_aload_n k_67_15 rfl ?_
  refine r_iload_n k_67_16 rfl ?_
  refine r_iconst k_67_17 ci_1 ?_
  refine r_iadd k_67_18 ?_
  rw [nI_add]
  refine r_put m_67 k_67_19 fl_9_48 rfl (Nat.le_of_ble_eq_true rfl) rfl rfl (wC_18 _) ?_
  exact hm_T.ret m_67 k_67_22 rfl (show Q none (hm_hC (hm_uM k 18 (fun _ => nI (np + 1))) (hc_ua ad 4 2 (np + 1)) w (hm_up h (ad 4 0) (.inl (6, ad 4 1, .inr (.inr (.inr (.inr (va_up (hm_la (ad 4) (ad 2)) np (some (ad 2 np))))))))) n s) from hQ (hc_ua ad 4 2 (np + 1)) _ _ n s hD.1 hD.2 (fun i hi => hc_ua_o hi) (Nat.le_refl _) (by omega) (Nat.le_refl _) (by omega))
set_option maxRecDepth 20000 in
theorem s_69q0 {d n s : Nat} {k : hm_M} {ad : hm_AD} {g : Nat → Nat × Nat} {w : hm_W} {nc np : Nat} {h : Nat → Option va_E} {Q : Option Value → hm_H → Prop} (X : hm_D k ad g nc np n h) (hn80 : 80 ≤ n) (h30 : ad 4 0 = 3) (hQ : Q (some (.ref (n + 4))) (hm_hC k (hc_ua ad 4 0 (n + 4)) w (hm_up h (n + 4) (.inl (6, 10, .inr (.inr (.inr (.inr (fun _ => none))))))) (n + 1) (s + 10))) : hm_T (d + 1) 69 0 [.ref 36, .int (nI 1), .retAddr 0, .retAddr 0] [] (hm_hC k ad w h n s) Q := by
  refine r_aload_n k_69_0 rfl ?_
  refine r_get m_69 k_69_1 fl_9_9 rfl rfl ?_
  rw [h30]
  refine r_alen (v := nI 0) k_69_4 X.h3 rfl ?_
  refine r_istore_n k_69_5 rfl ?_
  refine r_iload_n k_69_6 rfl ?_
  refine r_if_gt k_69_7 rfl (fun z => absurd z (by decide)) (fun c_7 => ?_)
  refine r_aload_n k_69_10 rfl ?_
  refine r_get m_69 k_69_11 fl_9_9 rfl rfl ?_
  rw [h30]
  refine r_gets m_69 k_69_14 sl_9_39 ?_
  refine r_acmp_eq k_69_17 rfl ?_
  refine r_aload_n k_69_45 rfl ?_
  refine r_bipush k_69_46 cb_10 ?_
  refine r_iload_n k_69_48 rfl ?_
  refine r_calls2 m_69 k_69_49 cl_9_79 m_15 (by decide) rfl rfl (Nat.le_of_ble_eq_true rfl) (Nat.le_of_ble_eq_true rfl) ?_
  refine s_15 ?_
  rw [if_neg (by decide)]
  refine r_anew (N := 10) m_69 k_69_52 nl_9_7 (Or.inr rfl) rfl (by decide) (nI_clamp (by decide)) (by decide) (hm_pushF (by omega)) ?_
  refine r_dup_x1 k_69_55 rfl rfl ?_
  refine r_put m_69 k_69_56 fl_9_9 rfl (Nat.le_of_ble_eq_true rfl) rfl rfl (wC_e4 _) ?_
  exact hm_T.ret m_69 k_69_59 rfl hQ
set_option maxRecDepth 20000 in
theorem s_69q1 {d n s : Nat} {k : hm_M} {ad : hm_AD} {g : Nat → Nat × Nat} {w : hm_W} {nc np : Nat} {h : Nat → Option va_E} {Q : Option Value → hm_H → Prop} (X : hm_D k ad g nc np n h) (hn80 : 80 ≤ n) (h16 : np < 16) (h0 : 0 < np) (hg : g (ad 4 0) = (5, 1)) (hcap : ad 4 1 = np) (h2c : ad 4 2 = np) (hQ : Q (some (.ref (n + 4))) (hm_hC k (hc_ua ad 4 0 (n + 4)) w (hm_up h (n + 4) (.inl (6, (hc_nl np), .inr (.inr (.inr (.inr (fun j => if j < np then hm_la (ad 4) (ad 2) j else none))))))) (n + 1) (s + (hc_nl np)))) : hm_T (d + 5) 69 0 [.ref 36, .int (nI (np + 1)), .retAddr 0, .retAddr 0] [] (hm_hC k ad w h n s) Q := by
  have hrd : (hm_hC k ad w h n s).1 (ad 4 0) = some (.inl (6, np, .inr (.inr (.inr (.inr (hm_la (ad 4) (ad 2))))))) := by
    rw [← hcap]
    exact hm_rd X hg (fun z => Nat.noConfusion z)
  have hl : (hc_nl np) ≤ 64 := by unfold hc_nl; split <;> omega
  have hl2 : np ≤ (hc_nl np) := by unfold hc_nl; omega
  have hob : hm_objs (hm_hC k ad w h n s) (hm_la (ad 4) (ad 2)) np = true := by
    unfold hm_objs
    rw [List.all_eq_true]
    intro j hj
    have hj2 : j < np := List.mem_range.mp hj
    rw [show (hm_la (ad 4) (ad 2)) j = some (ad 2 j) from if_pos (by rw [h2c]; exact hj2)]
    show (match (hm_hC k ad w h n s).1 (ad 2 j) with | some (.inr (cj, _)) => decide (cj < 10) | _ => false) = true
    rw [rD_4 X hj2]
    rfl
  refine r_aload_n k_69_0 rfl ?_
  refine r_get m_69 k_69_1 fl_9_9 rfl rfl ?_
  refine r_alen (v := nI np) k_69_4 hrd rfl ?_
  refine r_istore_n k_69_5 rfl ?_
  refine r_iload_n k_69_6 rfl ?_
  refine r_if_gt k_69_7 rfl (fun c_7 => ?_) (fun z => absurd (nI_lt (a := 0) h0 (by omega)) z)
  refine r_iload_n k_69_20 rfl ?_
  refine r_iload_n k_69_21 rfl ?_
  refine r_iload_n k_69_22 rfl ?_
  refine r_isub k_69_23 ?_
  rw [hm_nIsub (show np + 1 = np + 1 from rfl)]
  refine r_iload_n k_69_24 rfl ?_
  refine r_iconst k_69_25 ci_1 ?_
  refine r_ishr k_69_26 ?_
  rw [hc_shr ⟨np, by omega⟩]
  refine r_calls3 m_69 k_69_27 cl_9_73 m_70 (by decide) rfl rfl (Nat.le_of_ble_eq_true rfl) (Nat.le_of_ble_eq_true rfl) ?_
  refine s_70 (c := np) (by omega) ?_
  refine r_istore_n k_69_30 rfl ?_
  refine r_aload_n k_69_31 rfl ?_
  refine r_aload_n k_69_32 rfl ?_
  refine r_get m_69 k_69_33 fl_9_9 rfl rfl ?_
  refine r_iload_n k_69_36 rfl ?_
  refine r_copy m_69 k_69_37 cl_9_66 hrd (by omega) hl2 (Nat.le_of_ble_eq_true rfl) hob (hm_pushF (by omega)) (by omega) ?_
  refine r_dup_x1 k_69_40 rfl rfl ?_
  refine r_put m_69 k_69_41 fl_9_9 rfl (Nat.le_of_ble_eq_true rfl) rfl rfl (wC_e4 _) ?_
  exact hm_T.ret m_69 k_69_44 rfl hQ
set_option maxRecDepth 20000 in
theorem s_67qB0 {d n s : Nat} {k : hm_M} {ad : hm_AD} {g : Nat → Nat × Nat} {w : hm_W} {nc np : Nat} {h : Nat → Option va_E} {Q : Option Value → hm_H → Prop} (X : hm_D k ad g nc np n h) (hn80 : 80 ≤ n) (h16 : np < 16) (h30 : ad 4 0 = 3) (hz : np = 0) (hb : g (ad 2 np) = (4, np)) (hQ : ∀ A2 g2 h2 n2 s2, hm_D (hm_uM k 18 (fun _ => nI (np + 1))) A2 g2 nc (np + 1) n2 h2 → hm_lo h h2 → (∀ i, ¬ i = 4 → A2 i = ad i) → n ≤ n2 → n2 ≤ n + 1 → s ≤ s2 → s2 ≤ s + 40 → Q none (hm_hC (hm_uM k 18 (fun _ => nI (np + 1))) A2 w h2 n2 s2)) : hm_T (d + 7) 67 0 [.ref 36, .ref (ad 2 np), .ref (ad 4 0), .int (nI np)] [] (hm_hC k ad w h n s) Q := by
  have hl : 10 ≤ 40 ∧ np + 1 ≤ 10 := by omega
  have hbr := X.rg (ad 2 np) (by rw [hb]; exact (show (4 : Nat) ≠ 0 by decide))
  have hob : ∀ A s2, (hm_hC k A w (hm_up h (n + 4) (.inl (6, 10, .inr (.inr (.inr (.inr (fun _ => none))))))) (n + 1) s2).1 (ad 2 np) = some (.inr (5, hm_pf k np)) := fun A s2 => (rF (by omega)).trans ((hm_up_o (by omega)).trans ((X.at (ad 2 np) (by rw [hb]; exact (show (4 : Nat) ≠ 0 by decide))).trans (by rw [hb]; rfl)))
  have hD := hc_Dq X h16 hb (A2 := (hc_ua (hc_ua (hc_ua ad 4 0 (n + 4)) 4 1 10) 4 2 (np + 1))) (g2 := (hc_gcq g (n + 4))) (h2 := hm_up h (n + 4) (.inl (6, 10, .inr (.inr (.inr (.inr (va_up (fun _ => none) np (some (ad 2 np))))))))) (n2 := n + 1) (cap := 10) (E := (.inl (6, 10, .inr (.inr (.inr (.inr (va_up (fun _ => none) np (some (ad 2 np))))))))) (fun i hi => (hc_ua_o hi).trans ((hc_ua_o hi).trans (hc_ua_o hi))) rfl rfl hl.2 (by omega) (if_pos rfl) (fun j hj hj0 => hc_gcq_o hj hj0) (fun j h1 h2 => (if_neg (show ¬ j = n + 4 from fun z => by have := X.rg j h2; omega)).trans (if_neg h1)) (by
    rw [hc_la_q (m := np) (c1 := 0) (e1 := 0) (hc_ua (hc_ua (hc_ua ad 4 0 (n + 4)) 4 1 10) 4 2 (np + 1)) rfl ((hc_ua_o (by decide)).trans ((hc_ua_o (by decide)).trans (hc_ua_o (by decide)))) (fun _ => none) (fun j => (if_neg (by omega)).symm)]) rfl (by omega) (show 84 ≤ n + 4 ∧ n + 4 < n + 1 + 4 by omega)
  refine r_iload_n k_67_0 rfl ?_
  refine r_aload_n k_67_1 rfl ?_
  refine r_alen (v := nI 0) k_67_2 (show (hm_hC k ad w h n s).1 (ad 4 0) = some (.inl (101, 0, .inr (.inr (.inr (.inr (fun _ => none)))))) by rw [h30]; exact X.h3) rfl ?_
  refine r_icmp_ne k_67_3 rfl (fun z => absurd z (fun z => z (by rw [hz]))) (fun c_3 => ?_)
  refine r_aload_n k_67_6 rfl ?_
  refine r_callv1 m_67 k_67_7 cl_9_129 m_68 (by decide) rfl rfl (Nat.le_of_ble_eq_true rfl) (Nat.le_of_ble_eq_true rfl) rfl rfl ?_
  refine r_aload_n k_68_0 rfl ?_
  refine r_aload_n k_68_1 rfl ?_
  refine r_get m_68 k_68_2 fl_9_48 rfl rfl ?_
  rw [X.np]
  refine r_iconst k_68_5 ci_1 ?_
  refine r_iadd k_68_6 ?_
  rw [nI_add, show nI (np + 1) = nI 1 by rw [hz]]
  refine r_callv2 m_68 k_68_7 cl_9_69 m_69 (by decide) rfl rfl (Nat.le_of_ble_eq_true rfl) (Nat.le_of_ble_eq_true rfl) rfl rfl ?_
  refine s_69q0 X hn80 h30 ?_
  refine hm_T.ret m_68 k_68_10 rfl ?_
  refine r_astore_n k_67_10 rfl ?_
  refine r_aload_n k_67_11 rfl ?_
  refine r_iload_n k_67_12 rfl ?_
  refine r_aload_n k_67_13 rfl ?_
  refine r_aastn (cj := 5) (k := np) k_67_14 (r1o (by omega)) (hob _ _) (Or.inr ⟨rfl, by decide⟩) rfl (by omega) (by omega) (w1o (by omega)) ?_
  refine r_aload_n k_67_15 rfl ?_
  refine r_iload_n k_67_16 rfl ?_
  refine r_iconst k_67_17 ci_1 ?_
  refine r_iadd k_67_18 ?_
  rw [nI_add]
  refine r_put m_67 k_67_19 fl_9_48 rfl (Nat.le_of_ble_eq_true rfl) rfl rfl (wC_18 _) ?_
  exact hm_T.ret m_67 k_67_22 rfl (show Q none (hm_hC (hm_uM k 18 (fun _ => nI (np + 1))) (hc_ua (hc_ua (hc_ua ad 4 0 (n + 4)) 4 1 10) 4 2 (np + 1)) w (hm_up h (n + 4) (.inl (6, 10, .inr (.inr (.inr (.inr (va_up (fun _ => none) np (some (ad 2 np))))))))) (n + 1) (s + 10)) from hQ (hc_ua (hc_ua (hc_ua ad 4 0 (n + 4)) 4 1 10) 4 2 (np + 1)) _ _ (n + 1) (s + 10) hD.1 hD.2 (fun i hi => (hc_ua_o hi).trans ((hc_ua_o hi).trans (hc_ua_o hi))) (by omega) (Nat.le_refl _) (by omega) (by omega))
set_option maxRecDepth 20000 in
theorem s_67qB1 {d n s : Nat} {k : hm_M} {ad : hm_AD} {g : Nat → Nat × Nat} {w : hm_W} {nc np : Nat} {h : Nat → Option va_E} {Q : Option Value → hm_H → Prop} (X : hm_D k ad g nc np n h) (hn80 : 80 ≤ n) (h16 : np < 16) (h0 : 0 < np) (hg : g (ad 4 0) = (5, 1)) (hcap : ad 4 1 = np) (h2c : ad 4 2 = np) (hb : g (ad 2 np) = (4, np)) (hQ : ∀ A2 g2 h2 n2 s2, hm_D (hm_uM k 18 (fun _ => nI (np + 1))) A2 g2 nc (np + 1) n2 h2 → hm_lo h h2 → (∀ i, ¬ i = 4 → A2 i = ad i) → n ≤ n2 → n2 ≤ n + 1 → s ≤ s2 → s2 ≤ s + 40 → Q none (hm_hC (hm_uM k 18 (fun _ => nI (np + 1))) A2 w h2 n2 s2)) : hm_T (d + 7) 67 0 [.ref 36, .ref (ad 2 np), .ref (ad 4 0), .int (nI np)] [] (hm_hC k ad w h n s) Q := by
  have hl : (hc_nl np) ≤ 40 ∧ np + 1 ≤ (hc_nl np) := by unfold hc_nl; constructor <;> (split <;> omega)
  have hbr := X.rg (ad 2 np) (by rw [hb]; exact (show (4 : Nat) ≠ 0 by decide))
  have hob : ∀ A s2, (hm_hC k A w (hm_up h (n + 4) (.inl (6, (hc_nl np), .inr (.inr (.inr (.inr (fun j => if j < np then hm_la (ad 4) (ad 2) j else none))))))) (n + 1) s2).1 (ad 2 np) = some (.inr (5, hm_pf k np)) := fun A s2 => (rF (by omega)).trans ((hm_up_o (by omega)).trans ((X.at (ad 2 np) (by rw [hb]; exact (show (4 : Nat) ≠ 0 by decide))).trans (by rw [hb]; rfl)))
  have hD := hc_Dq X h16 hb (A2 := (hc_ua (hc_ua (hc_ua ad 4 0 (n + 4)) 4 1 (hc_nl np)) 4 2 (np + 1))) (g2 := (hc_gcq g (n + 4))) (h2 := hm_up h (n + 4) (.inl (6, (hc_nl np), .inr (.inr (.inr (.inr (va_up (fun j => if j < np then hm_la (ad 4) (ad 2) j else none) np (some (ad 2 np))))))))) (n2 := n + 1) (cap := (hc_nl np)) (E := (.inl (6, (hc_nl np), .inr (.inr (.inr (.inr (va_up (fun j => if j < np then hm_la (ad 4) (ad 2) j else none) np (some (ad 2 np))))))))) (fun i hi => (hc_ua_o hi).trans ((hc_ua_o hi).trans (hc_ua_o hi))) rfl rfl hl.2 (by omega) (if_pos rfl) (fun j hj hj0 => hc_gcq_o hj hj0) (fun j h1 h2 => (if_neg (show ¬ j = n + 4 from fun z => by have := X.rg j h2; omega)).trans (if_neg h1)) (by
    rw [hc_la_q (m := np) (c1 := 0) (e1 := 0) (hc_ua (hc_ua (hc_ua ad 4 0 (n + 4)) 4 1 (hc_nl np)) 4 2 (np + 1)) rfl ((hc_ua_o (by decide)).trans ((hc_ua_o (by decide)).trans (hc_ua_o (by decide)))) (fun j => if j < np then hm_la (ad 4) (ad 2) j else none) (fun j => by by_cases hj : j < np; (rw [if_pos hj, if_pos hj]; exact if_pos (by rw [h2c]; exact hj)); (rw [if_neg hj, if_neg hj]))]) rfl (by omega) (show 84 ≤ n + 4 ∧ n + 4 < n + 1 + 4 by omega)
  refine r_iload_n k_67_0 rfl ?_
  refine r_aload_n k_67_1 rfl ?_
  refine r_alen (v := nI (ad 4 1)) k_67_2 ((hm_rd X hg (fun z => Nat.noConfusion z)) : (hm_hC k ad w h n s).1 (ad 4 0) = some (.inl (6, ad 4 1, .inr (.inr (.inr (.inr (hm_la (ad 4) (ad 2)))))))) rfl ?_
  refine r_icmp_ne k_67_3 rfl (fun z => absurd z (fun z => z (by rw [hcap]))) (fun c_3 => ?_)
  refine r_aload_n k_67_6 rfl ?_
  refine r_callv1 m_67 k_67_7 cl_9_129 m_68 (by decide) rfl rfl (Nat.le_of_ble_eq_true rfl) (Nat.le_of_ble_eq_true rfl) rfl rfl ?_
  refine r_aload_n k_68_0 rfl ?_
  refine r_aload_n k_68_1 rfl ?_
  refine r_get m_68 k_68_2 fl_9_48 rfl rfl ?_
  rw [X.np]
  refine r_iconst k_68_5 ci_1 ?_
  refine r_iadd k_68_6 ?_
  rw [nI_add]
  refine r_callv2 m_68 k_68_7 cl_9_69 m_69 (by decide) rfl rfl (Nat.le_of_ble_eq_true rfl) (Nat.le_of_ble_eq_true rfl) rfl rfl ?_
  refine s_69q1 X hn80 h16 h0 hg hcap h2c ?_
  refine hm_T.ret m_68 k_68_10 rfl ?_
  refine r_astore_n k_67_10 rfl ?_
  refine r_aload_n k_67_11 rfl ?_
  refine r_iload_n k_67_12 rfl ?_
  refine r_aload_n k_67_13 rfl ?_
  refine r_aastn (cj := 5) (k := np) k_67_14 (r1o (by omega)) (hob _ _) (Or.inr ⟨rfl, by decide⟩) rfl (by omega) (by omega) (w1o (by omega)) ?_
  refine r_aload_n k_67_15 rfl ?_
  refine r_iload_n k_67_16 rfl ?_
  refine r_iconst k_67_17 ci_1 ?_
  refine r_iadd k_67_18 ?_
  rw [nI_add]
  refine r_put m_67 k_67_19 fl_9_48 rfl (Nat.le_of_ble_eq_true rfl) rfl rfl (wC_18 _) ?_
  exact hm_T.ret m_67 k_67_22 rfl (show Q none (hm_hC (hm_uM k 18 (fun _ => nI (np + 1))) (hc_ua (hc_ua (hc_ua ad 4 0 (n + 4)) 4 1 (hc_nl np)) 4 2 (np + 1)) w (hm_up h (n + 4) (.inl (6, (hc_nl np), .inr (.inr (.inr (.inr (va_up (fun j => if j < np then hm_la (ad 4) (ad 2) j else none) np (some (ad 2 np))))))))) (n + 1) (s + (hc_nl np))) from hQ (hc_ua (hc_ua (hc_ua ad 4 0 (n + 4)) 4 1 (hc_nl np)) 4 2 (np + 1)) _ _ (n + 1) (s + (hc_nl np)) hD.1 hD.2 (fun i hi => (hc_ua_o hi).trans ((hc_ua_o hi).trans (hc_ua_o hi))) (by omega) (Nat.le_refl _) (by omega) (by omega))
set_option maxRecDepth 20000 in
theorem s_66q {d n s : Nat} {k : hm_M} {ad : hm_AD} {g : Nat → Nat × Nat} {w : hm_W} {nc np : Nat} {h : Nat → Option va_E} {Q : Option Value → hm_H → Prop} (X : hm_D k ad g nc np n h) (hn80 : 80 ≤ n) (h16 : np < 16) (hb : g (ad 2 np) = (4, np)) (hQ : ∀ A2 g2 h2 n2 s2, hm_D (hm_uM (hm_uM k 53 (fun _ => k 53 0 + nI 1)) 18 (fun _ => nI (np + 1))) A2 g2 nc (np + 1) n2 h2 → hm_lo h h2 → (∀ i, ¬ i = 4 → A2 i = ad i) → n ≤ n2 → n2 ≤ n + 1 → s ≤ s2 → s2 ≤ s + 40 → Q (some (.int (nI 1))) (hm_hC (hm_uM (hm_uM k 53 (fun _ => k 53 0 + nI 1)) 18 (fun _ => nI (np + 1))) A2 w h2 n2 s2)) : hm_T (d + 8) 66 0 [.ref 36, .ref (ad 2 np)] [] (hm_hC k ad w h n s) Q := by
  have X2 : hm_D (hm_uM k 53 (fun _ => k 53 0 + nI 1)) ad g nc np n h := X.st (fun j hj => if_neg (by omega)) ⟨rfl, rfl, rfl, rfl, rfl, rfl, rfl, rfl, rfl, rfl, rfl, rfl, rfl⟩
  refine r_aload_n k_66_0 rfl ?_
  refine r_dup k_66_1 rfl ?_
  refine r_get m_66 k_66_2 fl_9_63 rfl rfl ?_
  refine r_iconst k_66_5 ci_1 ?_
  refine r_iadd k_66_6 ?_
  refine r_put m_66 k_66_7 fl_9_63 rfl (Nat.le_of_ble_eq_true rfl) rfl rfl (wC_53 _) ?_
  refine r_aload_n k_66_10 rfl ?_
  refine r_aload_n k_66_11 rfl ?_
  refine r_aload_n k_66_12 rfl ?_
  refine r_get m_66 k_66_13 fl_9_9 rfl rfl ?_
  refine r_aload_n k_66_16 rfl ?_
  refine r_get m_66 k_66_17 fl_9_48 rfl rfl ?_
  rw [show (hm_uM k 53 (fun _ => k 53 0 + nI 1)) 18 0 = nI np from X2.np]
  refine r_callv4 m_66 k_66_20 cl_9_131 m_67 (by decide) rfl rfl (Nat.le_of_ble_eq_true rfl) (Nat.le_of_ble_eq_true rfl) rfl rfl ?_
  rcases X.l2 with hl | hl
  · refine s_67qB0 X2 hn80 h16 hl.2.1 hl.1 hb (fun A2 g2 h2 n2 s2 a1 a2 a3 a4 a5 a6 a7 => ?_)
    refine r_iconst k_66_23 ci_1 ?_
    exact hm_T.ret m_66 k_66_24 rfl (hQ A2 g2 h2 n2 s2 a1 a2 a3 a4 a5 a6 a7)
  · rcases Nat.lt_or_ge np (ad 4 1) with hlt | hge
    · refine s_67qA X2 h16 hl.1 hlt hl.2.2.1 hl.2.2.2.1 hb (fun A2 g2 h2 n2 s2 a1 a2 a3 a4 a5 a6 a7 => ?_)
      refine r_iconst k_66_23 ci_1 ?_
      exact hm_T.ret m_66 k_66_24 rfl (hQ A2 g2 h2 n2 s2 a1 a2 a3 a4 a5 a6 a7)
    · rcases Nat.eq_zero_or_pos np with hz | hz
      · exact absurd hl.2.2.2.2 (by omega)
      · refine s_67qB1 X2 hn80 h16 hz hl.1 (by omega) hl.2.2.2.1 hb (fun A2 g2 h2 n2 s2 a1 a2 a3 a4 a5 a6 a7 => ?_)
        refine r_iconst k_66_23 ci_1 ?_
        exact hm_T.ret m_66 k_66_24 rfl (hQ A2 g2 h2 n2 s2 a1 a2 a3 a4 a5 a6 a7)
