def hc_kq (k : hm_M) (q : Nat) (v : Int32) : hm_M := hm_uM (hm_uM (hm_uM (hm_uM (hm_uM k 19 (upd (k 19) q v)) 20 (upd (k 20) q (nI 0))) 21 (upd (k 21) q (-1))) 33 (upd (k 33) q (nI 0))) 22 (upd (k 22) q (nI 0))
theorem hc_kq_hi {k : hm_M} {q j : Nat} {v : Int32} (hj : 100 ≤ j) : hc_kq k q v j = k j := (if_neg (by omega)).trans ((if_neg (by omega)).trans ((if_neg (by omega)).trans ((if_neg (by omega)).trans (if_neg (by omega)))))
theorem hc_kq_st {k : hm_M} {q x : Nat} {v : Int32} {ad : hm_AD} {w : hm_W} : hm_cC (hc_kq k q v) (hc_ua ad 2 q x) w = hm_cC k ad w := rfl
def hc_gq (g : Nat → Nat × Nat) (a q : Nat) : Nat → Nat × Nat := fun j => if j = a then (4, q) else if g j = (4, q) then (0, 0) else g j
theorem hc_gq_o {g : Nat → Nat × Nat} {a q j : Nat} (h1 : ¬ j = a) (h0 : (hc_gq g a q j).1 ≠ 0) : hc_gq g a q j = g j ∧ ¬ g j = (4, q) := by
  have e1 : hc_gq g a q j = (if g j = (4, q) then (0, 0) else g j) := if_neg h1
  by_cases hc : g j = (4, q)
  · rw [e1, if_pos hc] at h0
    exact absurd rfl h0
  · exact ⟨by rw [e1, if_neg hc], hc⟩
theorem hc_gq_k {g : Nat → Nat × Nat} {a q j : Nat} (h1 : ¬ j = a) (hc : ¬ g j = (4, q)) : hc_gq g a q j = g j := (if_neg h1).trans (if_neg hc)
theorem hc_Dnq {k : hm_M} {ad : hm_AD} {g : Nat → Nat × Nat} {nc np n : Nat} {h : Nat → Option va_E} (X : hm_D k ad g nc np n h) (hn80 : 80 ≤ n) {v : Int32} : hm_D (hc_kq k np v) (hc_ua ad 2 np (n + 4)) (hc_gq g (n + 4) np) nc np (n + 1) (hm_up h (n + 4) (.inr (5, [.int v, .int (nI 0), .int (-1), .int (nI 0), .int (nI 0)]))) ∧ hm_lo h (hm_up h (n + 4) (.inr (5, [.int v, .int (nI 0), .int (-1), .int (nI 0), .int (nI 0)]))) := by
  have hlo : hm_lo h (hm_up h (n + 4) (.inr (5, [.int v, .int (nI 0), .int (-1), .int (nI 0), .int (nI 0)]))) := fun j hj => hm_up_o (by omega)
  have a1 : ∀ c, ¬ c = np → (hc_ua ad 2 np (n + 4)) 2 c = ad 2 c := fun c hc => if_neg (fun z => hc z.2)
  have ao : ∀ i, ¬ i = 2 → (hc_ua ad 2 np (n + 4)) i = ad i := fun i hi => hc_ua_o hi
  have hold : ∀ j, (g j).1 ≠ 0 → ¬ j = n + 4 := fun j hj => by
    have := X.rg j hj
    omega
  have hla : hm_la ((hc_ua ad 2 np (n + 4)) 4) ((hc_ua ad 2 np (n + 4)) 2) = hm_la (ad 4) (ad 2) := by
    funext j
    show (if j < (hc_ua ad 2 np (n + 4)) 4 2 then some ((hc_ua ad 2 np (n + 4)) 2 j) else none) = (if j < ad 4 2 then some (ad 2 j) else none)
    rw [ao 4 (by decide)]
    by_cases hj : j < ad 4 2
    · rw [if_pos hj, if_pos hj, a1 j (by rcases X.l2 with h1 | h1 <;> omega)]
    · rw [if_neg hj, if_neg hj]
  have hdc : ∀ y : Nat × Nat, ¬ y = (4, np) → y.1 ≠ 0 → hm_dc (hc_kq k np v) (hc_ua ad 2 np (n + 4)) y = hm_dc k ad y := by
    rintro ⟨a, b⟩ hy hy0
    unfold hm_dc
    dsimp only at hy0 ⊢
    by_cases e1 : a = 1
    · rw [if_pos e1, if_pos e1]
      unfold hm_cf
      rw [ao 1 (by decide)]
      rfl
    rw [if_neg e1, if_neg e1]
    by_cases e2 : a = 2
    · rw [if_pos e2, if_pos e2, hc_kq_hi (by omega)]
    rw [if_neg e2, if_neg e2]
    by_cases e3 : a = 3
    · rw [if_pos e3, if_pos e3, hc_kq_hi (by omega)]
    rw [if_neg e3, if_neg e3]
    by_cases e4 : a = 4
    · have hb : ¬ b = np := fun z => hy (by rw [e4, z])
      rw [if_pos e4, if_pos e4]
      unfold hm_pf
      rw [show (hc_kq k np v) 19 b = k 19 b from if_neg hb, show (hc_kq k np v) 20 b = k 20 b from if_neg hb, show (hc_kq k np v) 21 b = k 21 b from if_neg hb, show (hc_kq k np v) 33 b = k 33 b from if_neg hb, show (hc_kq k np v) 22 b = k 22 b from if_neg hb]
    rw [if_neg e4, if_neg e4, hla, ao 3 (by decide), ao 4 (by decide), ao 1 (by decide)]
  refine ⟨⟨fun j hj => ?_, fun i j hi hij => ?_, fun c hc => ?_, fun q hq => ?_, fun j hj => ?_, X.nc, X.nc16, X.np, X.np16, ?_, ?_, by rw [ao 0 (by decide)]; exact X.p, by rw [ao 0 (by decide)]; exact X.pi, (hlo 1 (by decide)).trans X.h1, (hlo 2 (by decide)).trans X.h2, (hlo 3 (by decide)).trans X.h3, X.fa⟩, hlo⟩
  · by_cases h1 : j = n + 4
    · subst h1
      rw [show (hc_gq g (n + 4) np) (n + 4) = (4, np) from if_pos rfl]
      refine hm_up_s.trans ?_
      show some (Sum.inr (5, _) : va_E) = some (Sum.inr (5, hm_pf (hc_kq k np v) np))
      unfold hm_pf
      rw [show (hc_kq k np v) 19 np = v from if_pos rfl, show (hc_kq k np v) 20 np = nI 0 from if_pos rfl, show (hc_kq k np v) 21 np = -1 from if_pos rfl, show (hc_kq k np v) 33 np = nI 0 from if_pos rfl, show (hc_kq k np v) 22 np = nI 0 from if_pos rfl]
    obtain ⟨e1, e2⟩ := hc_gq_o h1 hj
    have hj2 : (g j).1 ≠ 0 := by rw [← e1]; exact hj
    rw [e1]
    refine (hm_up_o h1).trans ?_
    rw [X.at j hj2, hdc _ e2 hj2]
  · by_cases h1 : i = n + 4
    · by_cases h2 : j = n + 4
      · omega
      · have hj : ((hc_gq g (n + 4) np) j).1 ≠ 0 := by rw [← hij]; exact hi
        obtain ⟨e1, e2⟩ := hc_gq_o h2 hj
        rw [e1, show (hc_gq g (n + 4) np) i = (4, np) from if_pos h1] at hij
        exact absurd hij.symm e2
    · obtain ⟨e1, e2⟩ := hc_gq_o h1 hi
      by_cases h2 : j = n + 4
      · rw [e1, show (hc_gq g (n + 4) np) j = (4, np) from if_pos h2] at hij
        exact absurd hij e2
      · have hj : ((hc_gq g (n + 4) np) j).1 ≠ 0 := by rw [← hij]; exact hi
        obtain ⟨e3, e4⟩ := hc_gq_o h2 hj
        rw [e1, e3] at hij
        exact X.inj i j (by rw [← e1]; exact hi) hij
  · have key := X.cs c hc
    have ob : ∀ x t, g x = (t, c) → ¬ t = 0 → t < 4 → (hc_gq g (n + 4) np) x = (t, c) := fun x t hx ht h4 => by
      rw [hc_gq_k (hold x (by rw [hx]; exact ht)) (by rw [hx]; exact fun z => by have := congrArg Prod.fst z; dsimp only at this; omega)]
      exact hx
    rw [ao 1 (by decide)]
    exact ⟨ob _ 1 key.1 (by decide) (by decide), ob _ 2 key.2.1 (by decide) (by decide), ob _ 3 key.2.2 (by decide) (by decide)⟩
  · have key := X.pl q hq
    rw [a1 q (by omega), hc_gq_k (hold _ (by rw [key]; exact (show (4 : Nat) ≠ 0 by decide))) (by rw [key]; exact fun z => by have := congrArg Prod.snd z; dsimp only at this; omega)]
    exact key
  · by_cases h1 : j = n + 4
    · omega
    obtain ⟨e1, e2⟩ := hc_gq_o h1 hj
    have := X.rg j (by rw [← e1]; exact hj)
    omega
  · rw [ao 3 (by decide)]
    rcases X.l1 with h1 | h1
    · exact Or.inl h1
    · exact Or.inr ⟨by rw [hc_gq_k (hold _ (by rw [h1.1]; exact (show (5 : Nat) ≠ 0 by decide))) (by rw [h1.1]; exact fun z => absurd (congrArg Prod.fst z) (show ¬ 5 = 4 by decide))]; exact h1.1, h1.2⟩
  · rw [ao 4 (by decide)]
    rcases X.l2 with h1 | h1
    · exact Or.inl h1
    · exact Or.inr ⟨by rw [hc_gq_k (hold _ (by rw [h1.1]; exact (show (5 : Nat) ≠ 0 by decide))) (by rw [h1.1]; exact fun z => absurd (congrArg Prod.fst z) (show ¬ 5 = 4 by decide))]; exact h1.1, h1.2⟩
theorem s_66c2 {d n s : Nat} {k : hm_M} {ad : hm_AD} {g : Nat → Nat × Nat} {w : hm_W} {nc np : Nat} {h : Nat → Option va_E} {Q : Option Value → hm_H → Prop} (X : hm_D k ad g nc np n h) {b : Nat} (hba : ad 1 nc = b) (hn80 : 80 ≤ n) (h16 : nc < 16) (hb : g (ad 1 nc) = (1, nc) ∧ g (ad 1 nc + 1) = (2, nc) ∧ g (ad 1 nc + 2) = (3, nc)) (hfa : ∃ f, k 10 nc = nI f ∧ f < 4) (hQ : ∀ A2 g2 h2 n2 s2, hm_D (hm_uM (hm_uM k 52 (fun _ => k 52 0 + nI 1)) 9 (fun _ => nI (nc + 1))) A2 g2 (nc + 1) np n2 h2 → hm_lo h h2 → (∀ i, ¬ i = 3 → A2 i = ad i) → n ≤ n2 → n2 ≤ n + 1 → s ≤ s2 → s2 ≤ s + 40 → Q (some (.int (nI 1))) (hm_hC (hm_uM (hm_uM k 52 (fun _ => k 52 0 + nI 1)) 9 (fun _ => nI (nc + 1))) A2 w h2 n2 s2)) : hm_T (d + 8) 66 0 [.ref 35, .ref b] [] (hm_hC k ad w h n s) Q := by
  subst hba
  exact s_66c X hn80 h16 hb hfa hQ
theorem s_66q2 {d n s : Nat} {k : hm_M} {ad : hm_AD} {g : Nat → Nat × Nat} {w : hm_W} {nc np : Nat} {h : Nat → Option va_E} {Q : Option Value → hm_H → Prop} (X : hm_D k ad g nc np n h) {b : Nat} (hba : ad 2 np = b) (hn80 : 80 ≤ n) (h16 : np < 16) (hb : g (ad 2 np) = (4, np)) (hQ : ∀ A2 g2 h2 n2 s2, hm_D (hm_uM (hm_uM k 53 (fun _ => k 53 0 + nI 1)) 18 (fun _ => nI (np + 1))) A2 g2 nc (np + 1) n2 h2 → hm_lo h h2 → (∀ i, ¬ i = 4 → A2 i = ad i) → n ≤ n2 → n2 ≤ n + 1 → s ≤ s2 → s2 ≤ s + 40 → Q (some (.int (nI 1))) (hm_hC (hm_uM (hm_uM k 53 (fun _ => k 53 0 + nI 1)) 18 (fun _ => nI (np + 1))) A2 w h2 n2 s2)) : hm_T (d + 8) 66 0 [.ref 36, .ref b] [] (hm_hC k ad w h n s) Q := by
  subst hba
  exact s_66q X hn80 h16 hb hQ
set_option maxRecDepth 20000 in
theorem s_105_out {d n s : Nat} {k : hm_M} {ad : hm_AD} {w : hm_W} {h : Nat → Option va_E} {Q : Option Value → hm_H → Prop} {v : Int32} (hx : ¬ (0 ≤ v.toInt ∧ v.toInt ≤ 1000000)) (hQ : Q (some (.int (-1002))) (hm_hC k ad w h n s)) : hm_T (d + 9) 105 0 [.ref 4, .int v] [] (hm_hC k ad w h n s) Q := by
  refine r_iload_n k_105_0 rfl ?_
  refine r_iconst k_105_1 ci_0 ?_
  refine r_ldc_w m_105 k_105_2 il_7_260 ?_
  refine r_calls3 m_105 k_105_5 cl_7_78 m_13 (by decide) rfl rfl (Nat.le_of_ble_eq_true rfl) (Nat.le_of_ble_eq_true rfl) ?_
  refine s_13 ?_
  rw [show (nI 0).toInt = 0 by decide +kernel, show (1000000 : Int32).toInt = 1000000 by decide +kernel, if_neg hx]
  refine r_if_ne k_105_8 rfl (fun z => absurd z (fun z => z rfl)) (fun c_8 => ?_)
  refine r_sipush k_105_11 cs_m1002 ?_
  exact hm_T.ret m_105 k_105_14 rfl hQ
set_option maxRecDepth 20000 in
theorem s_105_full {d n s : Nat} {k : hm_M} {ad : hm_AD} {g : Nat → Nat × Nat} {w : hm_W} {nc np : Nat} {h : Nat → Option va_E} {Q : Option Value → hm_H → Prop} (X : hm_D k ad g nc np n h) {v : Int32} (hx : (0 ≤ v.toInt ∧ v.toInt ≤ 1000000)) (hf : np = 16) (hQ : Q (some (.int (-1004))) (hm_hC k ad w h n s)) : hm_T (d + 9) 105 0 [.ref 4, .int v] [] (hm_hC k ad w h n s) Q := by
  refine r_iload_n k_105_0 rfl ?_
  refine r_iconst k_105_1 ci_0 ?_
  refine r_ldc_w m_105 k_105_2 il_7_260 ?_
  refine r_calls3 m_105 k_105_5 cl_7_78 m_13 (by decide) rfl rfl (Nat.le_of_ble_eq_true rfl) (Nat.le_of_ble_eq_true rfl) ?_
  refine s_13 ?_
  rw [show (nI 0).toInt = 0 by decide +kernel, show (1000000 : Int32).toInt = 1000000 by decide +kernel, if_pos hx]
  refine r_if_ne k_105_8 rfl (fun c_8 => ?_) (fun z => absurd (show ¬ (1 : Int32) = 0 by decide) z)
  refine r_aload_n k_105_15 rfl ?_
  refine r_get m_105 k_105_16 fl_7_69 rfl rfl ?_
  refine r_callv1 m_105 k_105_19 cl_7_124 m_41 (by decide) rfl rfl (Nat.le_of_ble_eq_true rfl) (Nat.le_of_ble_eq_true rfl) rfl rfl ?_
  refine s_41q X ?_
  refine r_bipush k_105_22 cb_16 ?_
  refine r_icmp_lt k_105_24 rfl (fun z => absurd z (Int32.not_lt.mpr (nI_le (show 16 ≤ np by omega) (by omega)))) (fun c_24 => ?_)
  refine r_sipush k_105_27 cs_m1004 ?_
  exact hm_T.ret m_105 k_105_30 rfl hQ
set_option maxRecDepth 20000 in
theorem s_105 {d n s : Nat} {k : hm_M} {ad : hm_AD} {g : Nat → Nat × Nat} {w : hm_W} {nc np : Nat} {h : Nat → Option va_E} {Q : Option Value → hm_H → Prop} (X : hm_D k ad g nc np n h) (hn80 : 80 ≤ n) {v : Int32} (hx : (0 ≤ v.toInt ∧ v.toInt ≤ 1000000)) (hf : np < 16) (hQ : ∀ A2 g2 h2 n2 s2, hm_D (hm_uM (hm_uM (hc_kq k np v) 53 (fun _ => k 53 0 + nI 1)) 18 (fun _ => nI (np + 1))) A2 g2 nc (np + 1) n2 h2 → hm_lo h h2 → (∀ i, ¬ i = 4 → A2 i = (hc_ua ad 2 np (n + 4)) i) → n ≤ n2 → n2 ≤ n + 2 → s ≤ s2 → s2 ≤ s + 50 → Q (some (.int (nI np))) (hm_hC (hm_uM (hm_uM (hc_kq k np v) 53 (fun _ => k 53 0 + nI 1)) 18 (fun _ => nI (np + 1))) A2 w h2 n2 s2)) : hm_T (d + 9) 105 0 [.ref 4, .int v] [] (hm_hC k ad w h n s) Q := by
  obtain ⟨X1, hl1⟩ := hc_Dnq X hn80 (v := v)
  refine r_iload_n k_105_0 rfl ?_
  refine r_iconst k_105_1 ci_0 ?_
  refine r_ldc_w m_105 k_105_2 il_7_260 ?_
  refine r_calls3 m_105 k_105_5 cl_7_78 m_13 (by decide) rfl rfl (Nat.le_of_ble_eq_true rfl) (Nat.le_of_ble_eq_true rfl) ?_
  refine s_13 ?_
  rw [show (nI 0).toInt = 0 by decide +kernel, show (1000000 : Int32).toInt = 1000000 by decide +kernel, if_pos hx]
  refine r_if_ne k_105_8 rfl (fun c_8 => ?_) (fun z => absurd (show ¬ (1 : Int32) = 0 by decide) z)
  refine r_aload_n k_105_15 rfl ?_
  refine r_get m_105 k_105_16 fl_7_69 rfl rfl ?_
  refine r_callv1 m_105 k_105_19 cl_7_124 m_41 (by decide) rfl rfl (Nat.le_of_ble_eq_true rfl) (Nat.le_of_ble_eq_true rfl) rfl rfl ?_
  refine s_41q X ?_
  refine r_bipush k_105_22 cb_16 ?_
  refine r_icmp_lt k_105_24 rfl (fun c_24 => ?_) (fun z => absurd (nI_lt hf (by omega)) z)
  refine r_aload_n k_105_31 rfl ?_
  refine r_get m_105 k_105_32 fl_7_69 rfl rfl ?_
  refine r_new m_105 k_105_35 nl_7_261 (by decide) (he := hm_pushF (by omega)) ?_
  rw [hm_df_5]
  refine r_dup k_105_38 rfl ?_
  refine r_iload_n k_105_39 rfl ?_
  refine r_calli2 m_105 k_105_40 cl_7_263 m_106 (by decide) rfl rfl (Nat.le_of_ble_eq_true rfl) (Nat.le_of_ble_eq_true rfl) ?_
  refine s_106 (n := n) (show 61 ≤ n + 4 by omega) ?_
  show hm_T _ _ _ _ _ (hm_seg 4 (hm_cC k ad w) _, _, _) _
  rw [← hc_kq_st (k := k) (q := np) (x := n + 4) (v := v) (ad := ad) (w := w)]
  have ea : (hc_ua ad 2 np (n + 4)) 2 np = n + 4 := if_pos ⟨rfl, rfl⟩
  show hm_T _ _ _ _ [.ref (n + 4), _] (hm_hC (hc_kq k np v) (hc_ua ad 2 np (n + 4)) w _ (n + 1) _) _
  refine r_callv2 m_105 k_105_43 cl_7_157 m_66 (by decide) rfl rfl (Nat.le_of_ble_eq_true rfl) (Nat.le_of_ble_eq_true rfl) rfl rfl ?_
  refine s_66q2 X1 ea (by omega) hf (by rw [ea]; exact if_pos rfl) (fun A2 g2 h2 n2 s2 b1 b2 b3 b4 b5 b6 b7 => ?_)
  refine r_pop k_105_46 rfl ?_
  refine r_aload_n k_105_47 rfl ?_
  refine r_get m_105 k_105_48 fl_7_69 rfl rfl ?_
  refine r_callv1 m_105 k_105_51 cl_7_124 m_41 (by decide) rfl rfl (Nat.le_of_ble_eq_true rfl) (Nat.le_of_ble_eq_true rfl) rfl rfl ?_
  refine s_41q b1 ?_
  refine r_iconst k_105_54 ci_1 ?_
  refine r_isub k_105_55 ?_
  rw [show nI (np + 1) - nI 1 = nI np by rw [← nI_add]; exact hm_addsub _]
  exact hm_T.ret m_105 k_105_56 rfl (hQ A2 g2 h2 n2 s2 b1 (hl1.tr b2) b3 (by omega) (by omega) (by omega) (by have e5 : ([.int 0, .int 0, .int 0, .int 0, .int 0] : List Value).length = 5 := rfl; omega))
set_option maxRecDepth 20000 in
theorem s_63_bad {d n s : Nat} {k : hm_M} {ad : hm_AD} {w : hm_W} {h : Nat → Option va_E} {Q : Option Value → hm_H → Prop} {f de ne sp : Int32} (hx : ¬ (0 ≤ f.toInt ∧ f.toInt ≤ 3)) (hQ : Q (some (.int (-1001))) (hm_hC k ad w h n s)) : hm_T (d + 9) 63 0 [.ref 4, .int f, .int de, .int ne, .int sp] [] (hm_hC k ad w h n s) Q := by
  refine r_iload_n k_63_0 rfl ?_
  refine r_iconst k_63_1 ci_0 ?_
  refine r_iconst k_63_2 ci_3 ?_
  refine r_calls3 m_63 k_63_3 cl_7_78 m_13 (by decide) rfl rfl (Nat.le_of_ble_eq_true rfl) (Nat.le_of_ble_eq_true rfl) ?_
  refine s_13 ?_
  rw [show (nI 0).toInt = 0 by decide +kernel, show (nI 3).toInt = 3 by decide +kernel]
  rw [if_neg hx]
  refine r_if_ne k_63_6 rfl (fun z => absurd z (fun z => z rfl)) (fun c_6 => ?_)
  refine r_sipush k_63_9 cs_m1001 ?_
  exact hm_T.ret m_63 k_63_12 rfl hQ
set_option maxRecDepth 20000 in
theorem s_63_out {d n s : Nat} {k : hm_M} {ad : hm_AD} {w : hm_W} {h : Nat → Option va_E} {Q : Option Value → hm_H → Prop} {f de ne sp : Int32} (hx : (0 ≤ f.toInt ∧ f.toInt ≤ 3)) (ho : ¬ ((0 ≤ de.toInt ∧ de.toInt ≤ 399) ∧ (0 ≤ ne.toInt ∧ ne.toInt ≤ 6) ∧ (0 ≤ sp.toInt ∧ sp.toInt ≤ 70))) (hQ : Q (some (.int (-1002))) (hm_hC k ad w h n s)) : hm_T (d + 9) 63 0 [.ref 4, .int f, .int de, .int ne, .int sp] [] (hm_hC k ad w h n s) Q := by
  refine r_iload_n k_63_0 rfl ?_
  refine r_iconst k_63_1 ci_0 ?_
  refine r_iconst k_63_2 ci_3 ?_
  refine r_calls3 m_63 k_63_3 cl_7_78 m_13 (by decide) rfl rfl (Nat.le_of_ble_eq_true rfl) (Nat.le_of_ble_eq_true rfl) ?_
  refine s_13 ?_
  rw [show (nI 0).toInt = 0 by decide +kernel, show (nI 3).toInt = 3 by decide +kernel]
  rw [if_pos hx]
  refine r_if_ne k_63_6 rfl (fun c_6 => ?_) (fun z => absurd (show ¬ (1 : Int32) = 0 by decide) z)
  refine r_iload_n k_63_13 rfl ?_
  refine r_calls1 m_63 k_63_14 cl_7_151 m_64 (by decide) rfl rfl (Nat.le_of_ble_eq_true rfl) (Nat.le_of_ble_eq_true rfl) ?_
  refine s_64 ?_
  refine r_if_eq k_63_17 rfl (fun c_17 => ?_) (fun c_17 => ?_)
  · have c_17 := hm_if0 c_17
    refine r_sipush k_63_41 cs_m1002 ?_
    exact hm_T.ret m_63 k_63_44 rfl hQ
  · have c_17 := hm_if1 c_17
    refine r_iload_n k_63_20 rfl ?_
    refine r_iconst k_63_21 ci_0 ?_
    refine r_bipush k_63_22 cb_6 ?_
    refine r_calls3 m_63 k_63_24 cl_7_78 m_13 (by decide) rfl rfl (Nat.le_of_ble_eq_true rfl) (Nat.le_of_ble_eq_true rfl) ?_
    refine s_13 ?_
    rw [show (nI 0).toInt = 0 by decide +kernel, show (nI 6).toInt = 6 by decide +kernel]
    refine r_if_eq k_63_27 rfl (fun c_27 => ?_) (fun c_27 => ?_)
    · have c_27 := hm_if0 c_27
      refine r_sipush k_63_41 cs_m1002 ?_
      exact hm_T.ret m_63 k_63_44 rfl hQ
    · have c_27 := hm_if1 c_27
      refine r_iload k_63_30 rfl ?_
      refine r_iconst k_63_32 ci_0 ?_
      refine r_bipush k_63_33 cb_70 ?_
      refine r_calls3 m_63 k_63_35 cl_7_78 m_13 (by decide) rfl rfl (Nat.le_of_ble_eq_true rfl) (Nat.le_of_ble_eq_true rfl) ?_
      refine s_13 ?_
      rw [show (nI 0).toInt = 0 by decide +kernel, show (nI 70).toInt = 70 by decide +kernel]
      refine r_if_ne k_63_38 rfl (fun c_38 => ?_) (fun c_38 => ?_)
      · have c_38 := hm_if1 c_38
        exact absurd ⟨c_17, c_27, c_38⟩ ho
      · have c_38 := hm_if0 (Decidable.of_not_not c_38)
        refine r_sipush k_63_41 cs_m1002 ?_
        exact hm_T.ret m_63 k_63_44 rfl hQ
set_option maxRecDepth 20000 in
theorem s_63_full {d n s : Nat} {k : hm_M} {ad : hm_AD} {g : Nat → Nat × Nat} {w : hm_W} {nc np : Nat} {h : Nat → Option va_E} {Q : Option Value → hm_H → Prop} (X : hm_D k ad g nc np n h) {f de ne sp : Int32} (hx : (0 ≤ f.toInt ∧ f.toInt ≤ 3)) (ho : (0 ≤ de.toInt ∧ de.toInt ≤ 399) ∧ (0 ≤ ne.toInt ∧ ne.toInt ≤ 6) ∧ (0 ≤ sp.toInt ∧ sp.toInt ≤ 70)) (hf : nc = 16) (hQ : Q (some (.int (-1004))) (hm_hC k ad w h n s)) : hm_T (d + 9) 63 0 [.ref 4, .int f, .int de, .int ne, .int sp] [] (hm_hC k ad w h n s) Q := by
  refine r_iload_n k_63_0 rfl ?_
  refine r_iconst k_63_1 ci_0 ?_
  refine r_iconst k_63_2 ci_3 ?_
  refine r_calls3 m_63 k_63_3 cl_7_78 m_13 (by decide) rfl rfl (Nat.le_of_ble_eq_true rfl) (Nat.le_of_ble_eq_true rfl) ?_
  refine s_13 ?_
  rw [show (nI 0).toInt = 0 by decide +kernel, show (nI 3).toInt = 3 by decide +kernel]
  rw [if_pos hx]
  refine r_if_ne k_63_6 rfl (fun c_6 => ?_) (fun z => absurd (show ¬ (1 : Int32) = 0 by decide) z)
  refine r_iload_n k_63_13 rfl ?_
  refine r_calls1 m_63 k_63_14 cl_7_151 m_64 (by decide) rfl rfl (Nat.le_of_ble_eq_true rfl) (Nat.le_of_ble_eq_true rfl) ?_
  refine s_64 ?_
  rw [if_pos ho.1]
  refine r_if_eq k_63_17 rfl (fun z => absurd z (show ¬ (1 : Int32) = 0 by decide)) (fun c_17 => ?_)
  refine r_iload_n k_63_20 rfl ?_
  refine r_iconst k_63_21 ci_0 ?_
  refine r_bipush k_63_22 cb_6 ?_
  refine r_calls3 m_63 k_63_24 cl_7_78 m_13 (by decide) rfl rfl (Nat.le_of_ble_eq_true rfl) (Nat.le_of_ble_eq_true rfl) ?_
  refine s_13 ?_
  rw [show (nI 0).toInt = 0 by decide +kernel, show (nI 6).toInt = 6 by decide +kernel]
  rw [if_pos ho.2.1]
  refine r_if_eq k_63_27 rfl (fun z => absurd z (show ¬ (1 : Int32) = 0 by decide)) (fun c_27 => ?_)
  refine r_iload k_63_30 rfl ?_
  refine r_iconst k_63_32 ci_0 ?_
  refine r_bipush k_63_33 cb_70 ?_
  refine r_calls3 m_63 k_63_35 cl_7_78 m_13 (by decide) rfl rfl (Nat.le_of_ble_eq_true rfl) (Nat.le_of_ble_eq_true rfl) ?_
  refine s_13 ?_
  rw [show (nI 0).toInt = 0 by decide +kernel, show (nI 70).toInt = 70 by decide +kernel]
  rw [if_pos ho.2.2]
  refine r_if_ne k_63_38 rfl (fun c_38 => ?_) (fun z => absurd (show ¬ (1 : Int32) = 0 by decide) z)
  refine r_aload_n k_63_45 rfl ?_
  refine r_get m_63 k_63_46 fl_7_58 rfl rfl ?_
  refine r_callv1 m_63 k_63_49 cl_7_124 m_41 (by decide) rfl rfl (Nat.le_of_ble_eq_true rfl) (Nat.le_of_ble_eq_true rfl) rfl rfl ?_
  refine s_41c X ?_
  refine r_bipush k_63_52 cb_16 ?_
  refine r_icmp_lt k_63_54 rfl (fun z => absurd z (Int32.not_lt.mpr (nI_le (show 16 ≤ nc by omega) (by omega)))) (fun c_54 => ?_)
  refine r_sipush k_63_57 cs_m1004 ?_
  exact hm_T.ret m_63 k_63_60 rfl hQ
set_option maxRecDepth 20000 in
theorem s_63 {d n s : Nat} {k : hm_M} {ad : hm_AD} {g : Nat → Nat × Nat} {w : hm_W} {nc np : Nat} {h : Nat → Option va_E} {Q : Option Value → hm_H → Prop} (X : hm_D k ad g nc np n h) (hn80 : 80 ≤ n) {f de ne sp : Int32} (hx : (0 ≤ f.toInt ∧ f.toInt ≤ 3)) (ho : (0 ≤ de.toInt ∧ de.toInt ≤ 399) ∧ (0 ≤ ne.toInt ∧ ne.toInt ≤ 6) ∧ (0 ≤ sp.toInt ∧ sp.toInt ≤ 70)) (hf : nc < 16) (hQ : ∀ f6 f4 A2 g2 h2 n2 s2, (∀ i, i < 6 → f6 i = -1) → (∀ i, i < 4 → f4 i = -1) → hm_D (hm_uM (hm_uM (hc_kc k nc f de ne sp f6 f4) 52 (fun _ => k 52 0 + nI 1)) 9 (fun _ => nI (nc + 1))) A2 g2 (nc + 1) np n2 h2 → hm_lo h h2 → (∀ i, ¬ i = 3 → A2 i = (hc_ua ad 1 nc (n + 4)) i) → n ≤ n2 → n2 ≤ n + 4 → s ≤ s2 → s2 ≤ s + 60 → Q (some (.int (nI nc))) (hm_hC (hm_uM (hm_uM (hc_kc k nc f de ne sp f6 f4) 52 (fun _ => k 52 0 + nI 1)) 9 (fun _ => nI (nc + 1))) A2 w h2 n2 s2)) : hm_T (d + 9) 63 0 [.ref 4, .int f, .int de, .int ne, .int sp] [] (hm_hC k ad w h n s) Q := by
  refine r_iload_n k_63_0 rfl ?_
  refine r_iconst k_63_1 ci_0 ?_
  refine r_iconst k_63_2 ci_3 ?_
  refine r_calls3 m_63 k_63_3 cl_7_78 m_13 (by decide) rfl rfl (Nat.le_of_ble_eq_true rfl) (Nat.le_of_ble_eq_true rfl) ?_
  refine s_13 ?_
  rw [show (nI 0).toInt = 0 by decide +kernel, show (nI 3).toInt = 3 by decide +kernel]
  rw [if_pos hx]
  refine r_if_ne k_63_6 rfl (fun c_6 => ?_) (fun z => absurd (show ¬ (1 : Int32) = 0 by decide) z)
  refine r_iload_n k_63_13 rfl ?_
  refine r_calls1 m_63 k_63_14 cl_7_151 m_64 (by decide) rfl rfl (Nat.le_of_ble_eq_true rfl) (Nat.le_of_ble_eq_true rfl) ?_
  refine s_64 ?_
  rw [if_pos ho.1]
  refine r_if_eq k_63_17 rfl (fun z => absurd z (show ¬ (1 : Int32) = 0 by decide)) (fun c_17 => ?_)
  refine r_iload_n k_63_20 rfl ?_
  refine r_iconst k_63_21 ci_0 ?_
  refine r_bipush k_63_22 cb_6 ?_
  refine r_calls3 m_63 k_63_24 cl_7_78 m_13 (by decide) rfl rfl (Nat.le_of_ble_eq_true rfl) (Nat.le_of_ble_eq_true rfl) ?_
  refine s_13 ?_
  rw [show (nI 0).toInt = 0 by decide +kernel, show (nI 6).toInt = 6 by decide +kernel]
  rw [if_pos ho.2.1]
  refine r_if_eq k_63_27 rfl (fun z => absurd z (show ¬ (1 : Int32) = 0 by decide)) (fun c_27 => ?_)
  refine r_iload k_63_30 rfl ?_
  refine r_iconst k_63_32 ci_0 ?_
  refine r_bipush k_63_33 cb_70 ?_
  refine r_calls3 m_63 k_63_35 cl_7_78 m_13 (by decide) rfl rfl (Nat.le_of_ble_eq_true rfl) (Nat.le_of_ble_eq_true rfl) ?_
  refine s_13 ?_
  rw [show (nI 0).toInt = 0 by decide +kernel, show (nI 70).toInt = 70 by decide +kernel]
  rw [if_pos ho.2.2]
  refine r_if_ne k_63_38 rfl (fun c_38 => ?_) (fun z => absurd (show ¬ (1 : Int32) = 0 by decide) z)
  refine r_aload_n k_63_45 rfl ?_
  refine r_get m_63 k_63_46 fl_7_58 rfl rfl ?_
  refine r_callv1 m_63 k_63_49 cl_7_124 m_41 (by decide) rfl rfl (Nat.le_of_ble_eq_true rfl) (Nat.le_of_ble_eq_true rfl) rfl rfl ?_
  refine s_41c X ?_
  refine r_bipush k_63_52 cb_16 ?_
  refine r_icmp_lt k_63_54 rfl (fun c_54 => ?_) (fun z => absurd (nI_lt hf (by omega)) z)
  refine r_aload_n k_63_61 rfl ?_
  refine r_get m_63 k_63_62 fl_7_58 rfl rfl ?_
  refine r_new m_63 k_63_65 nl_7_132 (by decide) (he := hm_pushF (by omega)) ?_
  rw [hm_df_1]
  refine r_dup k_63_68 rfl ?_
  refine r_iload_n k_63_69 rfl ?_
  refine r_iload_n k_63_70 rfl ?_
  refine r_iload_n k_63_71 rfl ?_
  refine r_iload k_63_72 rfl ?_
  refine r_calli5 m_63 k_63_74 cl_7_154 m_65 (by decide) rfl rfl (Nat.le_of_ble_eq_true rfl) (Nat.le_of_ble_eq_true rfl) ?_
  refine s_65 (n := n) (show 61 ≤ n + 4 by omega) (fun f6 f4 h6 h4 => ?_)
  obtain ⟨X1, hl1⟩ := hc_Dn X hn80 (f := f) (de := de) (ne := ne) (sp := sp) (f6 := f6) (f4 := f4)
  have e52 : (hc_kc k nc f de ne sp f6 f4) 52 = k 52 := hc_kc_lo (by decide)
  show hm_T _ _ _ _ _ (hm_seg 4 (hm_cC k ad w) _, _, _) _
  rw [← hc_kc_st (k := k) (c := nc) (x := n + 4) (f := f) (de := de) (ne := ne) (sp := sp) (f6 := f6) (f4 := f4) (ad := ad) (w := w)]
  have ea : (hc_ua ad 1 nc (n + 4)) 1 nc = n + 4 := if_pos ⟨rfl, rfl⟩
  show hm_T _ _ _ _ [.ref (n + 4), _] (hm_hC (hc_kc k nc f de ne sp f6 f4) (hc_ua ad 1 nc (n + 4)) w _ (n + 3) _) _
  have hfa : ∃ x, (hc_kc k nc f de ne sp f6 f4) 10 nc = nI x ∧ x < 4 := by
    obtain ⟨x, x4, xe, -, -⟩ := hm_nIof2 hx.1 (N := 4) (by omega)
    exact ⟨x, by rw [hc_kc_lo (by decide), show hc_kc0 k nc f de ne sp 10 nc = f from if_pos rfl]; exact xe, x4⟩
  refine r_callv2 m_63 k_63_77 cl_7_157 m_66 (by decide) rfl rfl (Nat.le_of_ble_eq_true rfl) (Nat.le_of_ble_eq_true rfl) rfl rfl ?_
  refine s_66c2 X1 ea (by omega) hf ⟨by rw [ea]; exact if_pos rfl, by rw [ea]; exact (if_neg (by omega)).trans (if_pos rfl), by rw [ea]; exact (if_neg (by omega)).trans ((if_neg (by omega)).trans (if_pos rfl))⟩ hfa (fun A2 g2 h2 n2 s2 b1 b2 b3 b4 b5 b6 b7 => ?_)
  rw [e52] at b1 ⊢
  refine r_pop k_63_80 rfl ?_
  refine r_aload_n k_63_81 rfl ?_
  refine r_get m_63 k_63_82 fl_7_58 rfl rfl ?_
  refine r_callv1 m_63 k_63_85 cl_7_124 m_41 (by decide) rfl rfl (Nat.le_of_ble_eq_true rfl) (Nat.le_of_ble_eq_true rfl) rfl rfl ?_
  refine s_41c b1 ?_
  refine r_iconst k_63_88 ci_1 ?_
  refine r_isub k_63_89 ?_
  rw [show nI (nc + 1) - nI 1 = nI nc by rw [← nI_add]; exact hm_addsub _]
  exact hm_T.ret m_63 k_63_90 rfl (hQ f6 f4 A2 g2 h2 n2 s2 h6 h4 b1 (hl1.tr b2) b3 (by omega) (by omega) (by omega) (by have e8 : ([.int 0, .int 0, .int 0, .int 0, .null, .null, .int 0, .int 0] : List Value).length = 8 := rfl; omega))
