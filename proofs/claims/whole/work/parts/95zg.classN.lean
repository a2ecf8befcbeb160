def hc_u0 (ad : hm_AD) (i x : Nat) : hm_AD := fun a j => if a = 0 ∧ j = i then x else ad a j
theorem hc_u0_o {ad : hm_AD} {i x a : Nat} (h : ¬ a = 0) : hc_u0 ad i x a = ad a := by
  funext j
  exact if_neg (fun z => h z.1)
theorem hc_u0_y {ad : hm_AD} {i x : Nat} : hc_u0 ad i x 0 i = x := if_pos ⟨rfl, rfl⟩
theorem hc_u0_n {ad : hm_AD} {i x j : Nat} (h : ¬ j = i) : hc_u0 ad i x 0 j = ad 0 j := if_neg (fun z => h z.2)
theorem wC_laws {k : hm_M} {ad : hm_AD} {w : hm_W} {h : Nat → Option va_E} {n s f x : Nat} (hf : f < 4) : hm_set (hm_hC k ad w h n s) 28 (.inl (5, 4, .inr (.inr (.inr (.inr (va_up (fun i => if i < 4 then some (hm_lb (ad 0 i)) else none) f (some (hm_lb x)))))))) = hm_hC k (hc_u0 ad f x) w h n s := by
  have hfun : va_up (fun i => if i < 4 then some (hm_lb (ad 0 i)) else none) f (some (hm_lb x)) = (fun i => if i < 4 then some (hm_lb (hc_u0 ad f x 0 i)) else none) := by
    funext i
    by_cases hi : i = f
    · subst hi
      rw [hc_u0_y, if_pos hf]
      exact if_pos rfl
    · rw [hc_u0_n hi]
      exact if_neg hi
  rw [hfun]
  have h4 : f = 0 ∨ f = 1 ∨ f = 2 ∨ f = 3 := by omega
  rcases h4 with rfl | rfl | rfl | rfl
  · exact hm_seg_set (k := 24) (Nat.le_of_ble_eq_true rfl) rfl rfl
  · exact hm_seg_set (k := 24) (Nat.le_of_ble_eq_true rfl) rfl rfl
  · exact hm_seg_set (k := 24) (Nat.le_of_ble_eq_true rfl) rfl rfl
  · exact hm_seg_set (k := 24) (Nat.le_of_ble_eq_true rfl) rfl rfl
theorem wC_draft {k : hm_M} {ad : hm_AD} {w : hm_W} {h : Nat → Option va_E} {n s x : Nat} : hm_set (hm_hC k ad w h n s) 4 (.inr (7, ([.ref 5, .ref 6, .ref 7, .ref 17, .ref 25, .ref 27, .ref 28, .ref (hm_lb (ad 0 4)), .ref 35, .int (k 31 0), .int (k 17 0), .ref 36, .int (k 23 0), .int (k 32 0)] : List Value).set 7 (.ref (hm_lb x)))) = hm_hC k (hc_u0 ad 4 x) w h n s := by
  have hfun : (fun i => if i < 4 then some (hm_lb (hc_u0 ad 4 x 0 i)) else none) = (fun i => if i < 4 then some (hm_lb (ad 0 i)) else none) := by
    funext i
    by_cases hi : i < 4
    · rw [if_pos hi, if_pos hi, hc_u0_n (by omega)]
    · rw [if_neg hi, if_neg hi]
  have e : hm_cC k (hc_u0 ad 4 x) w = (hm_cC k ad w).set 0 (.inr (7, ([.ref 5, .ref 6, .ref 7, .ref 17, .ref 25, .ref 27, .ref 28, .ref (hm_lb (ad 0 4)), .ref 35, .int (k 31 0), .int (k 17 0), .ref 36, .int (k 23 0), .int (k 32 0)] : List Value).set 7 (.ref (hm_lb x)))) := by
    unfold hm_cC
    rw [hfun]
    rfl
  show _ = (hm_seg 4 (hm_cC k (hc_u0 ad 4 x) w) h, n, s)
  rw [e]
  exact hm_seg_set (k := 0) (Nat.le_of_ble_eq_true rfl) rfl rfl
def hc_ad2 (ad : hm_AD) (f : Nat) : hm_AD := hc_u0 (hc_u0 ad f (ad 0 4)) 4 (ad 0 f)
theorem hc_ad2_o {ad : hm_AD} {f a : Nat} (h : ¬ a = 0) : hc_ad2 ad f a = ad a := (hc_u0_o h).trans (hc_u0_o h)
theorem hc_ad2_v {ad : hm_AD} {f i : Nat} (hf : f < 4) : hc_ad2 ad f 0 i = (if i = 4 then ad 0 f else if i = f then ad 0 4 else ad 0 i) := by
  by_cases h : i = 4
  · subst h
    rw [if_pos rfl]
    exact hc_u0_y
  · rw [if_neg h]
    refine (hc_u0_n h).trans ?_
    by_cases h2 : i = f
    · subst h2
      rw [if_pos rfl]
      exact hc_u0_y
    · rw [if_neg h2]
      exact hc_u0_n h2
theorem hm_D.ad2 {k : hm_M} {ad : hm_AD} {g : Nat → Nat × Nat} {nc np n : Nat} {h : Nat → Option va_E} (X : hm_D k ad g nc np n h) {f : Nat} (hf : f < 4) : hm_D k (hc_ad2 ad f) g nc np n h := by
  have e1 : hc_ad2 ad f 1 = ad 1 := hc_ad2_o (by decide)
  have e2 : hc_ad2 ad f 2 = ad 2 := hc_ad2_o (by decide)
  have e3 : hc_ad2 ad f 3 = ad 3 := hc_ad2_o (by decide)
  have e4 : hc_ad2 ad f 4 = ad 4 := hc_ad2_o (by decide)
  refine ⟨fun j hj => ?_, X.inj, by rw [e1]; exact X.cs, by rw [e2]; exact X.pl, X.rg, X.nc, X.nc16, X.np, X.np16, by rw [e3]; exact X.l1, by rw [e4]; exact X.l2, fun i hi => ?_, fun i j hi hj hij => ?_, X.h1, X.h2, X.h3, X.fa⟩
  · rw [X.at j hj]
    unfold hm_dc hm_cf hm_la
    rw [e1, e2, e3, e4]
  · rw [hc_ad2_v hf]
    split
    · exact X.p f (by omega)
    · split
      · exact X.p 4 (by omega)
      · exact X.p i hi
  · rw [hc_ad2_v hf, hc_ad2_v hf] at hij
    by_cases a1 : i = 4
    · rw [if_pos a1] at hij
      by_cases b1 : j = 4
      · omega
      · rw [if_neg b1] at hij
        by_cases b2 : j = f
        · rw [if_pos b2] at hij
          have := X.pi f 4 (by omega) (by omega) hij
          omega
        · rw [if_neg b2] at hij
          have := X.pi f j (by omega) hj hij
          omega
    · rw [if_neg a1] at hij
      by_cases a2 : i = f
      · rw [if_pos a2] at hij
        by_cases b1 : j = 4
        · rw [if_pos b1] at hij
          have := X.pi 4 f (by omega) (by omega) hij
          omega
        · rw [if_neg b1] at hij
          by_cases b2 : j = f
          · omega
          · rw [if_neg b2] at hij
            have := X.pi 4 j (by omega) hj hij
            omega
      · rw [if_neg a2] at hij
        by_cases b1 : j = 4
        · rw [if_pos b1] at hij
          have := X.pi i f hi (by omega) hij
          omega
        · rw [if_neg b1] at hij
          by_cases b2 : j = f
          · rw [if_pos b2] at hij
            have := X.pi i 4 hi (by omega) hij
            omega
          · rw [if_neg b2] at hij
            exact X.pi i j hi hj hij
theorem hm_D.rs {k : hm_M} {ad : hm_AD} {g : Nat → Nat × Nat} {nc np n : Nat} {h : Nat → Option va_E} (X : hm_D k ad g nc np n h) {k2 : hm_M} {q : Nat} (hq : q < 5) (hr : hc_rs q k k2) : hm_D k2 ad g nc np n h := X.st (fun j hj => hr j (by omega) (by omega) (by omega)) ⟨hr 9 (by decide) (by decide) (by omega), hr 10 (by decide) (by decide) (by omega), hr 11 (by decide) (by decide) (by omega), hr 12 (by decide) (by decide) (by omega), hr 13 (by decide) (by decide) (by omega), hr 34 (by decide) (by decide) (by omega), hr 16 (by decide) (by decide) (by omega), hr 18 (by decide) (by decide) (by omega), hr 19 (by decide) (by decide) (by omega), hr 20 (by decide) (by decide) (by omega), hr 21 (by decide) (by decide) (by omega), hr 33 (by decide) (by decide) (by omega), hr 22 (by decide) (by decide) (by omega)⟩
theorem hc_ub_o {c q : Nat} : ∀ (r a : Nat) (k : hm_M) (f : Nat), ¬ f = 31 → ¬ f = 17 → f < 40 ∨ 45 < f → ¬ f = 100 + 2 * c → (hc_ub c q r a k).2 f = k f := by
  intro r
  induction r with
  | zero => intro a k f _ _ _ _; rfl
  | succ r ih =>
    intro a k f h1 h2 h3 h4
    unfold hc_ub
    split
    · rfl
    · rw [ih _ _ f h1 h2 h3 h4]
      exact hc_tb_o h1 h2 h3 h4
theorem hc_ub_ok {c q : Nat} : ∀ (r a : Nat) (k : hm_M), hm_hok k c → hm_hok (hc_ub c q r a k).2 c := by
  intro r
  induction r with
  | zero => intro a k ho; exact ho
  | succ r ih =>
    intro a k ho
    unfold hc_ub
    split
    · exact ho
    · exact ih _ _ (hc_tb_ok ho)
/-- what a new law undoes, case by case -/
def hc_lwu (f q : Nat) : Nat → Nat → Nat → hm_M → Nat × hm_M
  | 0, _, a, k => (a, k)
  | j + 1, c, a, k => if k 10 c = nI f then hc_lwu f q j (c + 1) (a + (hc_ub c q 4 0 k).1) (hc_ub c q 4 0 k).2 else hc_lwu f q j (c + 1) a k
theorem hc_ub_le {c q : Nat} : ∀ (r a : Nat) (k : hm_M), (hc_ub c q r a k).1 ≤ a + r := by
  intro r
  induction r with
  | zero => intro a k; exact Nat.le_refl _
  | succ r ih =>
    intro a k
    unfold hc_ub
    split
    · exact Nat.le_add_right _ _
    · have := ih (a + 1) (hc_tb k c (hm_fb (hm_brk k c q) 4 0).toNatClampNeg (k (100 + 2 * c) (hm_fb (hm_brk k c q) 4 0).toNatClampNeg).toNatClampNeg)
      omega
set_option maxRecDepth 20000 in
theorem s_26_bad {d n s : Nat} {k : hm_M} {ad : hm_AD} {w : hm_W} {h : Nat → Option va_E} {Q : Option Value → hm_H → Prop} {f : Int32} (hx : ¬ (0 ≤ f.toInt ∧ f.toInt ≤ 3)) (hQ : Q (some (.int (-1001))) (hm_hC k ad w h n s)) : hm_T (d + 6) 26 0 [.ref 4, .int f, .retAddr 0, .retAddr 0, .retAddr 0, .retAddr 0, .retAddr 0] [] (hm_hC k ad w h n s) Q := by
  refine r_iload_n k_26_0 rfl ?_
  refine r_iconst k_26_1 ci_0 ?_
  refine r_iconst k_26_2 ci_3 ?_
  refine r_calls3 m_26 k_26_3 cl_7_78 m_13 (by decide) rfl rfl (Nat.le_of_ble_eq_true rfl) (Nat.le_of_ble_eq_true rfl) ?_
  refine s_13 ?_
  rw [show (nI 0).toInt = 0 by decide +kernel, show (nI 3).toInt = 3 by decide +kernel]
  rw [if_neg hx]
  refine r_if_ne k_26_6 rfl (fun z => absurd z (fun z => z rfl)) (fun c_6 => ?_)
  refine r_sipush k_26_9 cs_m1001 ?_
  exact hm_T.ret m_26 k_26_12 rfl hQ
set_option maxRecDepth 20000 in
theorem l_26 {d n s : Nat} {ad : hm_AD} {g : Nat → Nat × Nat} {w : hm_W} {nc np : Nat} {Q : Option Value → hm_H → Prop} {f y : Nat} (hf : f < 4) : ∀ (j c a : Nat) (k : hm_M) (h : Nat → Option va_E) (va : Value), va.category = 1 → hm_D k ad g nc np n h → (∀ c, c < nc → hm_hok k c) → c + j = nc → (∀ h2, hm_D (hc_lwu f (ad 0 f) j c a k).2 ad g nc np n h2 → hm_lo h h2 → Q (some (.int (nI (hc_lwu f (ad 0 f) j c a k).1))) (hm_hC (hc_lwu f (ad 0 f) j c a k).2 ad w h2 n s)) → hm_T (d + 5) 26 73 [.ref 4, .int (nI f), .int (nI 0), .ref y, .int (nI a), .int (nI c), va] [] (hm_hC k ad w h n s) Q := by
  intro j
  induction j with
  | zero =>
    intro c a k h va hva X ho hi hQ
    refine r_iload k_26_73 rfl ?_
    refine r_aload_n k_26_75 rfl ?_
    refine r_get m_26 k_26_76 fl_7_58 rfl rfl ?_
    refine r_callv1 m_26 k_26_79 cl_7_124 m_41 (by decide) rfl rfl (Nat.le_of_ble_eq_true rfl) (Nat.le_of_ble_eq_true rfl) rfl rfl ?_
    refine s_41c X ?_
    refine r_icmp_ge k_26_82 rfl (fun c_82 => ?_) (fun z => absurd (nI_le (show nc ≤ c by omega) (by have := X.nc16; omega)) z)
    refine r_iload k_26_129 rfl ?_
    exact hm_T.ret m_26 k_26_131 rfl (hQ h X (hm_lo.rfl2 h))
  | succ j ih =>
    intro c a k h va hva X ho hi hQ
    refine r_iload k_26_73 rfl ?_
    refine r_aload_n k_26_75 rfl ?_
    refine r_get m_26 k_26_76 fl_7_58 rfl rfl ?_
    refine r_callv1 m_26 k_26_79 cl_7_124 m_41 (by decide) rfl rfl (Nat.le_of_ble_eq_true rfl) (Nat.le_of_ble_eq_true rfl) rfl rfl ?_
    refine s_41c X ?_
    refine r_icmp_ge k_26_82 rfl (fun z => absurd z (nI_ge (show c < nc by omega) (by have := X.nc16; omega))) (fun c_82 => ?_)
    refine r_aload_n k_26_85 rfl ?_
    refine r_get m_26 k_26_86 fl_7_58 rfl rfl ?_
    refine r_iload k_26_89 rfl ?_
    refine r_callv2 m_26 k_26_91 cl_7_128 m_42 (by decide) rfl rfl (Nat.le_of_ble_eq_true rfl) (Nat.le_of_ble_eq_true rfl) rfl rfl ?_
    refine s_42c X (c := c) (by omega) ?_
    refine r_cast m_26 k_26_94 nl_7_132 (rD_1 X (show c < nc by omega)) ?_
    refine r_astore k_26_97 rfl ?_
    refine r_iload k_26_99 rfl ?_
    refine r_aload k_26_101 rfl ?_
    refine r_get m_26 k_26_103 fl_7_134 (rD_1 X (show c < nc by omega)) rfl ?_
    refine r_iload_n k_26_106 rfl ?_
    refine r_icmp_ne k_26_107 rfl (fun c_107 => ?_) (fun c_107 => ?_)
    · refine r_iconst k_26_119 ci_0 ?_
      refine r_iadd k_26_120 ?_
      rw [nI_add, Nat.add_zero]
      refine r_istore k_26_121 rfl ?_
      refine r_iincn k_26_123 rfl (nI_inc c) rfl ?_
      refine r_goto k_26_126 rfl ?_
      rw [show hc_lwu f (ad 0 f) (j + 1) c a k = hc_lwu f (ad 0 f) j (c + 1) a k from if_neg c_107] at hQ
      exact ih (c + 1) a k h _ rfl X ho (by omega) hQ
    · have c_107 := Decidable.of_not_not c_107
      refine r_aload_n k_26_110 rfl ?_
      refine r_aload k_26_111 rfl ?_
      refine r_callv2 m_26 k_26_113 cl_7_137 m_46 (by decide) rfl rfl (Nat.le_of_ble_eq_true rfl) (Nat.le_of_ble_eq_true rfl) rfl rfl ?_
      refine s_46 X (c := c) (by omega) hf c_107 (ho c (by omega)) (fun h2 X2 hl => ?_)
      refine r_goto k_26_116 rfl ?_
      refine r_iadd k_26_120 ?_
      rw [nI_add]
      refine r_istore k_26_121 rfl ?_
      refine r_iincn k_26_123 rfl (nI_inc c) rfl ?_
      refine r_goto k_26_126 rfl ?_
      rw [show hc_lwu f (ad 0 f) (j + 1) c a k = hc_lwu f (ad 0 f) j (c + 1) (a + (hc_ub c (ad 0 f) 4 0 k).1) (hc_ub c (ad 0 f) 4 0 k).2 from if_pos c_107] at hQ
      refine ih (c + 1) _ _ h2 _ rfl X2 (fun c2 hc2 => ?_) (by omega) (fun h3 X3 hl3 => hQ h3 X3 (hl.tr hl3))
      by_cases hcc : c2 = c
      · subst hcc
        exact hc_ub_ok 4 0 k (ho c2 hc2)
      · exact hm_hok_c (hc_ub_o 4 0 k (100 + 2 * c2) (by omega) (by omega) (by omega) (by omega)) (ho c2 hc2)
theorem r_aastn {d M pc : Nat} {ls r : List Value} {hp hp2 : hm_H} {Q : Option Value → hm_H → Prop} {t n a b cj k : Nat} {j : Int32} {f : Nat → Option Nat} {fs : List Value} (hI : hm_code M pc = some (.aastore)) (ha : hp.1 a = some (.inl (t, n, .inr (.inr (.inr (.inr f)))))) (hb : hp.1 b = some (.inr (cj, fs))) (ht : (t = 5 ∧ cj = 2) ∨ (t = 6 ∧ cj < 10)) (hj : j = nI k) (hk : k < n) (hn : n < 2 ^ 31) (he : hm_set hp a (.inl (t, n, .inr (.inr (.inr (.inr (va_up f k (some b))))))) = hp2) (h : hm_T d M (pc + 1) ls r hp2 Q) : hm_T d M pc ls (.ref b :: .int j :: .ref a :: r) hp Q := by
  subst hj
  have e : (nI k).toNatClampNeg = k := nI_clamp (by omega)
  refine r_aast hI ha hb ht (by rw [e]; exact fun z => z.elim (nI_pos (by omega)) (by omega)) ?_ h
  rw [e]
  exact he
set_option maxRecDepth 20000 in
theorem s_26 {d n s : Nat} {k : hm_M} {ad : hm_AD} {g : Nat → Nat × Nat} {w : hm_W} {nc np : Nat} {h : Nat → Option va_E} {Q : Option Value → hm_H → Prop} (X : hm_D k ad g nc np n h) {f N : Nat} (hf : f < 4) (hN : k 7 0 = nI N) (hN1 : N ≤ 100) (ho : ∀ c, c < nc → hm_hok k c) {F : Nat → Int32} (hF0 : ∀ t, t < 4 → ∀ i, i < 5 → F (5 * t + i) = hc_f0 i) {R : hm_PR} (hA : hm_A (k 6) N 0 0 0 0 (nI 0) F = R) (hQ0 : R.1 = nI 0 → ∀ k2, hc_rs (ad 0 4) k k2 → hc_LF k2 (ad 0 4) R.2.2 → k2 8 0 = -1 → ∀ h2, hm_D (hc_lwu f (ad 0 4) nc 0 0 (hm_uM k2 7 (fun _ => nI 0))).2 (hc_ad2 ad f) g nc np n h2 → hm_lo h h2 → Q (some (.int (nI (hc_lwu f (ad 0 4) nc 0 0 (hm_uM k2 7 (fun _ => nI 0))).1))) (hm_hC (hc_lwu f (ad 0 4) nc 0 0 (hm_uM k2 7 (fun _ => nI 0))).2 (hc_ad2 ad f) w h2 n s)) (hQ1 : ∀ e, 0 < e → e < 6 → R.1 = nI e → ∀ k2, hc_rs (ad 0 4) k k2 → k2 8 0 = R.2.1 → hm_D (hm_uM k2 7 (fun _ => nI 0)) ad g nc np n h → Q (some (.int (-10 - nI e))) (hm_hC (hm_uM k2 7 (fun _ => nI 0)) ad w h n s)) : hm_T (d + 5) 26 0 [.ref 4, .int (nI f), .retAddr 0, .retAddr 0, .retAddr 0, .retAddr 0, .retAddr 0] [] (hm_hC k ad w h n s) Q := by
  have hq := X.p 4 (by decide)
  refine r_iload_n k_26_0 rfl ?_
  refine r_iconst k_26_1 ci_0 ?_
  refine r_iconst k_26_2 ci_3 ?_
  refine r_calls3 m_26 k_26_3 cl_7_78 m_13 (by decide) rfl rfl (Nat.le_of_ble_eq_true rfl) (Nat.le_of_ble_eq_true rfl) ?_
  refine s_13 ?_
  rw [show (nI 0).toInt = 0 by decide +kernel, show (nI 3).toInt = 3 by decide +kernel]
  rw [if_pos (by rw [nI_toInt (by omega)]; omega)]
  refine r_if_ne k_26_6 rfl (fun c_6 => ?_) (fun z => absurd (show ¬ (1 : Int32) = 0 by decide) z)
  refine r_aload_n k_26_13 rfl ?_
  refine r_get m_26 k_26_14 fl_7_40 rfl rfl ?_
  refine r_aload_n k_26_17 rfl ?_
  refine r_get m_26 k_26_18 fl_7_33 rfl rfl ?_
  refine r_aload_n k_26_21 rfl ?_
  refine r_get m_26 k_26_22 fl_7_51 rfl rfl ?_
  refine r_callv3 m_26 k_26_25 cl_7_117 m_27 (by decide) rfl rfl (Nat.le_of_ble_eq_true rfl) (Nat.le_of_ble_eq_true rfl) rfl rfl ?_
  refine s_27 hq hN hN1 hF0 hA (fun e0 k2 hr hLF h8 => ?_) (fun e he he6 e0 k2 hr h8 => ?_)
  · have X3 : hm_D (hm_uM k2 7 (fun _ => nI 0)) ad g nc np n h := (X.rs hq hr).st (fun j hj => if_neg (by omega)) ⟨rfl, rfl, rfl, rfl, rfl, rfl, rfl, rfl, rfl, rfl, rfl, rfl, rfl⟩
    refine r_istore_n k_26_28 rfl ?_
    refine r_aload_n k_26_29 rfl ?_
    refine r_get m_26 k_26_30 fl_7_33 rfl rfl ?_
    refine r_callv1 m_26 k_26_33 cl_7_121 m_40 (by decide) rfl rfl (Nat.le_of_ble_eq_true rfl) (Nat.le_of_ble_eq_true rfl) rfl rfl ?_
    refine s_40 ?_
    refine r_iload_n k_26_36 rfl ?_
    refine r_if_eq k_26_37 rfl (fun c_37 => ?_) (fun z => absurd rfl z)
    refine r_aload_n k_26_45 rfl ?_
    refine r_get m_26 k_26_46 fl_7_46 rfl rfl ?_
    refine r_iload_n k_26_49 rfl ?_
    refine r_aaldn (k := f) k_26_50 rfl (by decide) rfl hf (by decide) (by show va_rf (if f < 4 then some _ else none) = _; rw [if_pos hf]; try rfl) ?_
    refine r_astore_n k_26_51 rfl ?_
    refine r_aload_n k_26_52 rfl ?_
    refine r_get m_26 k_26_53 fl_7_46 rfl rfl ?_
    refine r_iload_n k_26_56 rfl ?_
    refine r_aload_n k_26_57 rfl ?_
    refine r_get m_26 k_26_58 fl_7_51 rfl rfl ?_
    refine r_aastn k_26_61 rfl (rC_l0 hq) (Or.inl ⟨rfl, rfl⟩) rfl (show f < 4 from hf) (by decide) (wC_laws hf) ?_
    refine r_aload_n k_26_62 rfl ?_
    refine r_aload_n k_26_63 rfl ?_
    refine r_put m_26 k_26_64 fl_7_51 rfl (Nat.le_of_ble_eq_true rfl) rfl rfl (wC_draft (ad := hc_u0 ad f (ad 0 4))) ?_
    refine r_iconst k_26_67 ci_0 ?_
    refine r_istore k_26_68 rfl ?_
    refine r_iconst k_26_70 ci_0 ?_
    refine r_istore k_26_71 rfl ?_
    have ef : hc_ad2 ad f 0 f = ad 0 4 := by
      rw [hc_ad2_v hf, if_neg (by omega), if_pos rfl]
    have e := l_26 (d := d) (n := n) (s := s) (ad := hc_ad2 ad f) (g := g) (w := w) (np := np) (Q := Q) (y := hm_lb (ad 0 f)) hf nc 0 0 (hm_uM k2 7 (fun _ => nI 0)) h (.retAddr 0) rfl (X3.ad2 hf) (fun c hc => hm_hok_c ((if_neg (by omega)).trans (hr (100 + 2 * c) (by omega) (by omega) (by omega))) (ho c hc)) (by omega)
    rw [ef] at e
    exact e (hQ0 e0 k2 hr hLF h8)
  · have X3 : hm_D (hm_uM k2 7 (fun _ => nI 0)) ad g nc np n h := (X.rs hq hr).st (fun j hj => if_neg (by omega)) ⟨rfl, rfl, rfl, rfl, rfl, rfl, rfl, rfl, rfl, rfl, rfl, rfl, rfl⟩
    refine r_istore_n k_26_28 rfl ?_
    refine r_aload_n k_26_29 rfl ?_
    refine r_get m_26 k_26_30 fl_7_33 rfl rfl ?_
    refine r_callv1 m_26 k_26_33 cl_7_121 m_40 (by decide) rfl rfl (Nat.le_of_ble_eq_true rfl) (Nat.le_of_ble_eq_true rfl) rfl rfl ?_
    refine s_40 ?_
    refine r_iload_n k_26_36 rfl ?_
    refine r_if_eq k_26_37 rfl (fun z => absurd z (fun z => absurd (hm_nIinj (b := 0) z (by omega)) (by omega))) (fun c_37 => ?_)
    refine r_bipush k_26_40 cb_m10 ?_
    refine r_iload_n k_26_42 rfl ?_
    refine r_isub k_26_43 ?_
    exact hm_T.ret m_26 k_26_44 rfl (hQ1 e he he6 e0 k2 hr h8 X3)
