/-- what the class's state keeps for the search -/
def hc_I (k : hm_M) (nc nb : Nat) : Prop := (k 2 0 = nI nb) ∧ (nb ≤ 12) ∧ (∀ c, c < nc → ∃ nd, k 12 c = nI nd ∧ nd ≤ 6) ∧ (∀ c, c < nc → hm_hok k c) ∧ (∀ hh, hh < 400 → k 40 hh < k 0 0 → (hc_wl k (nI hh) nc).length ≤ 3) ∧ (∀ hh, hh < 400 → (hc_wl k (nI hh) nc).length ≤ 4)
theorem hc_I.hb {k : hm_M} {nc nb : Nat} (I : hc_I k nc nb) : k 2 0 = nI nb := I.1
theorem hc_I.hb12 {k : hm_M} {nc nb : Nat} (I : hc_I k nc nb) : nb ≤ 12 := I.2.1
theorem hc_I.h12 {k : hm_M} {nc nb : Nat} (I : hc_I k nc nb) : ∀ c, c < nc → ∃ nd, k 12 c = nI nd ∧ nd ≤ 6 := I.2.2.1
theorem hc_I.ho {k : hm_M} {nc nb : Nat} (I : hc_I k nc nb) : ∀ c, c < nc → hm_hok k c := I.2.2.2.1
theorem hc_I.h3 {k : hm_M} {nc nb : Nat} (I : hc_I k nc nb) : ∀ hh, hh < 400 → k 40 hh < k 0 0 → (hc_wl k (nI hh) nc).length ≤ 3 := I.2.2.2.2.1
theorem hc_I.h4 {k : hm_M} {nc nb : Nat} (I : hc_I k nc nb) : ∀ hh, hh < 400 → (hc_wl k (nI hh) nc).length ≤ 4 := I.2.2.2.2.2
def hc_hi (k : hm_M) (q nb nc c t hh : Nat) : Int32 := if k (100 + 2 * c) t = -1 then (if hm_hbl k c q t (nI hh) = 0 then (if hm_hbo k c q t (nI hh) = 0 then (if k 40 hh < k 0 0 then (if hc_pl k c hh t = true then (if hm_tkb (nI t) = true then (if (hc_V k nb (hc_wl k (nI hh) nc ++ [c])).isSome = true then nI 0 else nI 12) else nI 0) else nI 11) else nI 10) else hm_hbo k c q t (nI hh)) else hm_hbl k c q t (nI hh)) else nI 1
theorem hc_sc.hbl {k k2 : hm_M} (hs : hc_sc k k2) (c q t : Nat) (hour : Int32) : hm_hbl k2 c q t hour = hm_hbl k c q t hour := by
  unfold hm_hbl
  rw [hs 11 (by decide), hs (60 + 4 * q + t) (by omega), hs (101 + 2 * c) (by omega), hs (100 + 2 * c) (by omega)]
theorem hc_sc.hbo {k k2 : hm_M} (hs : hc_sc k k2) (c q t : Nat) (hour : Int32) : hm_hbo k2 c q t hour = hm_hbo k c q t hour := by
  have e : hm_ctl k2 c q (nI t) hour = hm_ctl k c q (nI t) hour := by
    funext i
    unfold hm_ctl
    rw [hs (100 + 2 * c) (by omega), hs (60 + 4 * q + i) (by omega)]
  unfold hm_hbo
  rw [e, hs (100 + 2 * c) (by omega)]
theorem hc_sc.opn {k k2 : hm_M} (hs : hc_sc k k2) (hour : Int32) : hm_opn k2 hour = hm_opn k hour := by
  funext i
  unfold hm_opn
  rw [hs 1 (by decide)]
theorem hc_sc.pl {k k2 : hm_M} (hs : hc_sc k k2) (c t hh : Nat) : hc_pl k2 c hh t = hc_pl k c hh t := by
  unfold hc_pl
  rw [hs 43 (by decide), hs 0 (by decide), hs (100 + 2 * c) (by omega), hs 41 (by decide), hs 42 (by decide), hc_sc.opn hs]
theorem hc_sc.wl {k k2 : hm_M} (hs : hc_sc k k2) (hour : Int32) : ∀ c, hc_wl k2 hour c = hc_wl k hour c := by
  intro c
  induction c with
  | zero => rfl
  | succ c ih =>
    have e : hc_car k2 hour c = hc_car k hour c := by
      unfold hc_car
      rw [hs (100 + 2 * c) (by omega)]
    show (if hc_car k2 hour c = true then hc_wl k2 hour c ++ [c] else hc_wl k2 hour c) = _
    rw [e, ih]
    rfl
theorem hc_sc.V {k k2 : hm_M} (hs : hc_sc k k2) (nb : Nat) (L : List Nat) : hc_V k2 nb L = hc_V k nb L := by
  unfold hc_V
  rw [hs 12 (by decide), hs 13 (by decide), hs 3 (by decide)]
theorem hc_sc.hi {k k2 : hm_M} (hs : hc_sc k k2) (q nb nc c t hh : Nat) : hc_hi k2 q nb nc c t hh = hc_hi k q nb nc c t hh := by
  unfold hc_hi
  rw [hs (100 + 2 * c) (by omega), hc_sc.hbl hs, hc_sc.hbo hs, hs 40 (by decide), hs 0 (by decide), hc_sc.pl hs, hc_sc.wl hs, hc_sc.V hs]
theorem hc_sc.I {k k2 : hm_M} (hs : hc_sc k k2) {nc nb : Nat} (I : hc_I k nc nb) : hc_I k2 nc nb := by
  refine ⟨by rw [hs 2 (by decide)]; exact I.hb, I.hb12, by rw [hs 12 (by decide)]; exact I.h12, fun c hc => hm_hok_c (hs (100 + 2 * c) (by omega)) (I.ho c hc), fun hh h1 h2 => ?_, fun hh h1 => ?_⟩
  · rw [hs 40 (by decide), hs 0 (by decide)] at h2
    rw [hc_sc.wl hs]
    exact I.h3 hh h1 h2
  · rw [hc_sc.wl hs]
    exact I.h4 hh h1
theorem hc_sc.rfl2 (k : hm_M) : hc_sc k k := fun _ _ => rfl
theorem hc_sc.tr {k k2 k3 : hm_M} (a : hc_sc k k2) (b : hc_sc k2 k3) : hc_sc k k3 := fun j hj => (b j hj).trans (a j hj)
set_option maxRecDepth 20000 in
theorem s_77 {d n s : Nat} {k : hm_M} {ad : hm_AD} {g : Nat → Nat × Nat} {w : hm_W} {nc np : Nat} {h : Nat → Option va_E} {Q : Option Value → hm_H → Prop} (X : hm_D k ad g nc np n h) {nb : Nat} (I : hc_I k nc nb) {c t hh f : Nat} (hc : c < nc) (ht : t < 4) (hh4 : hh < 400) (hf : f < 4) (hkf : k 10 c = nI f) (hQ : ∀ k2 w2, hc_sc k k2 → Q (some (.int (hc_hi k (ad 0 f) nb nc c t hh))) (hm_hC k2 ad w2 h n s)) : hm_T (d + 48) 77 0 [.ref 4, .ref (ad 1 c), .int (nI t), .int (nI hh), .retAddr 0, .retAddr 0] [] (hm_hC k ad w h n s) Q := by
  refine r_aload_n k_77_0 rfl ?_
  refine r_iload_n k_77_1 rfl ?_
  refine r_callv2 m_77 k_77_2 cl_7_176 m_48 (by decide) rfl rfl (Nat.le_of_ble_eq_true rfl) (Nat.le_of_ble_eq_true rfl) (rD_1 X hc) rfl ?_
  refine s_48 X hc ht ?_
  refine r_if_eq k_77_5 rfl (fun c_5 => ?_) (fun c_5 => ?_)
  · have c_5 := hm_bi0 c_5
    have c_5 := Decidable.of_not_not (of_decide_eq_false c_5)
    refine r_aload_n k_77_10 rfl ?_
    refine r_get m_77 k_77_11 fl_7_46 rfl rfl ?_
    refine r_aload_n k_77_14 rfl ?_
    refine r_get m_77 k_77_15 fl_7_134 (rD_1 X hc) rfl ?_
    rw [hkf]
    refine r_aaldn (k := f) k_77_18 rfl (by decide) rfl (by omega) (by decide) (by show va_rf (if f < 4 then some _ else none) = _; rw [if_pos hf]; try rfl) ?_
    refine r_astore k_77_19 rfl ?_
    refine r_aload_n k_77_21 rfl ?_
    refine r_aload k_77_22 rfl ?_
    refine r_iload_n k_77_24 rfl ?_
    refine r_iload_n k_77_25 rfl ?_
    refine r_callv4 m_77 k_77_26 cl_7_204 m_49 (by decide) rfl rfl (Nat.le_of_ble_eq_true rfl) (Nat.le_of_ble_eq_true rfl) (rD_1 X hc) rfl ?_
    refine s_49 X hc (X.p f (by omega)) ht ?_
    refine r_istore k_77_29 rfl ?_
    refine r_iload k_77_31 rfl ?_
    refine r_if_ne k_77_33 rfl (fun c_33 => ?_) (fun c_33 => ?_)
    · refine r_iload k_77_46 rfl ?_
      refine r_if_eq k_77_48 rfl (fun z => absurd z c_33) (fun c_48 => ?_)
      refine r_iload k_77_51 rfl ?_
      exact hm_T.ret m_77 k_77_53 rfl (by have e := hQ k w (hc_sc.rfl2 k); unfold hc_hi at e; rw [if_pos c_5, if_neg c_33] at e; exact e)
    · have c_33 := Decidable.of_not_not c_33
      refine r_aload_n k_77_36 rfl ?_
      refine r_aload k_77_37 rfl ?_
      refine r_iload_n k_77_39 rfl ?_
      refine r_iload_n k_77_40 rfl ?_
      refine r_callv4 m_77 k_77_41 cl_7_208 m_78 (by decide) rfl rfl (Nat.le_of_ble_eq_true rfl) (Nat.le_of_ble_eq_true rfl) (rD_1 X hc) rfl ?_
      refine s_78 X hc (X.p f (by omega)) ht ?_
      refine r_istore k_77_44 rfl ?_
      refine r_iload k_77_46 rfl ?_
      refine r_if_eq k_77_48 rfl (fun c_48 => ?_) (fun c_48 => ?_)
      · refine r_aload_n k_77_54 rfl ?_
        refine r_get m_77 k_77_55 fl_7_26 rfl rfl ?_
        refine r_iload_n k_77_58 rfl ?_
        refine r_iconst k_77_59 ci_0 ?_
        refine r_callv3 m_77 k_77_60 cl_7_99 m_18 (by decide) rfl rfl (Nat.le_of_ble_eq_true rfl) (Nat.le_of_ble_eq_true rfl) rfl rfl ?_
        refine s_18 (r := 0) (by decide) hh4 ?_
        refine r_aload_n k_77_63 rfl ?_
        refine r_get m_77 k_77_64 fl_7_7 rfl rfl ?_
        refine r_iconst k_77_67 ci_0 ?_
        refine r_ialdn (k := 0) k_77_68 rfl (Or.inl rfl) rfl (by decide) (by decide) ?_
        refine r_icmp_lt k_77_69 rfl (fun c_69 => ?_) (fun c_69 => ?_)
        · refine r_aload_n k_77_75 rfl ?_
          refine r_aload_n k_77_76 rfl ?_
          refine r_iload_n k_77_77 rfl ?_
          refine r_iload_n k_77_78 rfl ?_
          refine r_callv4 m_77 k_77_79 cl_7_211 m_81 (by decide) rfl rfl (Nat.le_of_ble_eq_true rfl) (Nat.le_of_ble_eq_true rfl) rfl rfl ?_
          refine s_81 X hc ht hh4 (I.ho c hc) ?_
          refine r_if_ne k_77_82 rfl (fun c_82 => ?_) (fun c_82 => ?_)
          · have c_82 := hm_bi1 c_82
            refine r_iload_n k_77_88 rfl ?_
            refine r_calls1 m_77 k_77_89 cl_7_189 m_59 (by decide) rfl rfl (Nat.le_of_ble_eq_true rfl) (Nat.le_of_ble_eq_true rfl) ?_
            refine s_59 ?_
            refine r_if_eq k_77_92 rfl (fun c_92 => ?_) (fun c_92 => ?_)
            · have c_92 := hm_bi0 c_92
              refine r_iconst k_77_109 ci_0 ?_
              exact hm_T.ret m_77 k_77_110 rfl (by have e := hQ k w (hc_sc.rfl2 k); unfold hc_hi at e; rw [if_pos c_5, if_pos c_33, if_pos c_48, if_pos c_69, if_pos c_82, if_neg (by rw [c_92]; decide)] at e; exact e)
            · have c_92 := hm_bi1 c_92
              refine r_aload_n k_77_95 rfl ?_
              refine r_aload_n k_77_96 rfl ?_
              refine r_iload_n k_77_97 rfl ?_
              refine r_callv3 m_77 k_77_98 cl_7_215 m_83 (by decide) rfl rfl (Nat.le_of_ble_eq_true rfl) (Nat.le_of_ble_eq_true rfl) rfl rfl ?_
              refine s_83 X hc I.h12 I.hb I.hb12 (I.h3 hh hh4 c_69) (fun k2 w2 hs => ?_)
              refine r_if_ne k_77_101 rfl (fun c_101 => ?_) (fun c_101 => ?_)
              · have c_101 := hm_bi1 c_101
                refine r_iconst k_77_109 ci_0 ?_
                exact hm_T.ret m_77 k_77_110 rfl (by have e := hQ k2 w2 hs; unfold hc_hi at e; rw [if_pos c_5, if_pos c_33, if_pos c_48, if_pos c_69, if_pos c_82, if_pos c_92, if_pos c_101] at e; exact e)
              · have c_101 := hm_bi0 (Decidable.of_not_not c_101)
                refine r_bipush k_77_104 cb_12 ?_
                refine r_goto k_77_106 rfl ?_
                exact hm_T.ret m_77 k_77_110 rfl (by have e := hQ k2 w2 hs; unfold hc_hi at e; rw [if_pos c_5, if_pos c_33, if_pos c_48, if_pos c_69, if_pos c_82, if_pos c_92, if_neg (by rw [c_101]; decide)] at e; exact e)
          · have c_82 := hm_bi0 (Decidable.of_not_not c_82)
            refine r_bipush k_77_85 cb_11 ?_
            exact hm_T.ret m_77 k_77_87 rfl (by have e := hQ k w (hc_sc.rfl2 k); unfold hc_hi at e; rw [if_pos c_5, if_pos c_33, if_pos c_48, if_pos c_69, if_neg (by rw [c_82]; decide)] at e; exact e)
        · refine r_bipush k_77_72 cb_10 ?_
          exact hm_T.ret m_77 k_77_74 rfl (by have e := hQ k w (hc_sc.rfl2 k); unfold hc_hi at e; rw [if_pos c_5, if_pos c_33, if_pos c_48, if_neg c_69] at e; exact e)
      · refine r_iload k_77_51 rfl ?_
        exact hm_T.ret m_77 k_77_53 rfl (by have e := hQ k w (hc_sc.rfl2 k); unfold hc_hi at e; rw [if_pos c_5, if_pos c_33, if_neg c_48] at e; exact e)
  · have c_5 := hm_bi1 c_5
    have c_5 := of_decide_eq_true c_5
    refine r_iconst k_77_8 ci_1 ?_
    exact hm_T.ret m_77 k_77_9 rfl (by have e := hQ k w (hc_sc.rfl2 k); unfold hc_hi at e; rw [if_neg c_5] at e; exact e)
set_option maxRecDepth 20000 in
theorem s_76_bad {d n s : Nat} {k : hm_M} {ad : hm_AD} {g : Nat → Nat × Nat} {w : hm_W} {nc np : Nat} {h : Nat → Option va_E} {Q : Option Value → hm_H → Prop} (X : hm_D k ad g nc np n h) {c t x : Int32} (hb : ¬ (0 ≤ c.toInt ∧ c.toInt < nc)) (hQ : Q (some (.int (-1001))) (hm_hC k ad w h n s)) : hm_T (d + 49) 76 0 [.ref 4, .int c, .int t, .int x, .retAddr 0] [] (hm_hC k ad w h n s) Q := by
  refine r_aload_n k_76_0 rfl ?_
  refine r_iload_n k_76_1 rfl ?_
  refine r_callv2 m_76 k_76_2 cl_7_161 m_75 (by decide) rfl rfl (Nat.le_of_ble_eq_true rfl) (Nat.le_of_ble_eq_true rfl) rfl rfl ?_
  refine s_75_bad X hb ?_
  refine r_astoreN k_76_5 rfl ?_
  refine r_aloadN k_76_7 rfl ?_
  refine r_ifnonnullN k_76_9 ?_
  refine r_sipush k_76_12 cs_m1001 ?_
  exact hm_T.ret m_76 k_76_15 rfl hQ
set_option maxRecDepth 20000 in
theorem s_76_out {d n s : Nat} {k : hm_M} {ad : hm_AD} {g : Nat → Nat × Nat} {w : hm_W} {nc np : Nat} {h : Nat → Option va_E} {Q : Option Value → hm_H → Prop} (X : hm_D k ad g nc np n h) {c : Nat} (hc : c < nc) {t x : Int32} (ho : ¬ ((0 ≤ t.toInt ∧ t.toInt ≤ 3) ∧ (0 ≤ x.toInt ∧ x.toInt ≤ 399))) (hQ : Q (some (.int (-1002))) (hm_hC k ad w h n s)) : hm_T (d + 49) 76 0 [.ref 4, .int (nI c), .int t, .int x, .retAddr 0] [] (hm_hC k ad w h n s) Q := by
  refine r_aload_n k_76_0 rfl ?_
  refine r_iload_n k_76_1 rfl ?_
  refine r_callv2 m_76 k_76_2 cl_7_161 m_75 (by decide) rfl rfl (Nat.le_of_ble_eq_true rfl) (Nat.le_of_ble_eq_true rfl) rfl rfl ?_
  refine s_75 X hc ?_
  refine r_astore k_76_5 rfl ?_
  refine r_aload k_76_7 rfl ?_
  refine r_ifnonnull k_76_9 rfl ?_
  refine r_iload_n k_76_16 rfl ?_
  refine r_calls1 m_76 k_76_17 cl_7_144 m_62 (by decide) rfl rfl (Nat.le_of_ble_eq_true rfl) (Nat.le_of_ble_eq_true rfl) ?_
  refine s_62 ?_
  refine r_if_eq k_76_20 rfl (fun c_20 => ?_) (fun c_20 => ?_)
  · have c_20 := hm_if0 c_20
    refine r_sipush k_76_30 cs_m1002 ?_
    exact hm_T.ret m_76 k_76_33 rfl hQ
  · have c_20 := hm_if1 c_20
    refine r_iload_n k_76_23 rfl ?_
    refine r_calls1 m_76 k_76_24 cl_7_151 m_64 (by decide) rfl rfl (Nat.le_of_ble_eq_true rfl) (Nat.le_of_ble_eq_true rfl) ?_
    refine s_64 ?_
    refine r_if_ne k_76_27 rfl (fun c_27 => ?_) (fun c_27 => ?_)
    · have c_27 := hm_if1 c_27
      exact absurd ⟨c_20, c_27⟩ ho
    · have c_27 := hm_if0 (Decidable.of_not_not c_27)
      refine r_sipush k_76_30 cs_m1002 ?_
      exact hm_T.ret m_76 k_76_33 rfl hQ
set_option maxRecDepth 20000 in
theorem s_94_bad {d n s : Nat} {k : hm_M} {ad : hm_AD} {g : Nat → Nat × Nat} {w : hm_W} {nc np : Nat} {h : Nat → Option va_E} {Q : Option Value → hm_H → Prop} (X : hm_D k ad g nc np n h) {c t x : Int32} (hb : ¬ (0 ≤ c.toInt ∧ c.toInt < nc)) (hQ : Q (some (.int (-1001))) (hm_hC k ad w h n s)) : hm_T (d + 49) 94 0 [.ref 4, .int c, .int t, .int x, .retAddr 0] [] (hm_hC k ad w h n s) Q := by
  refine r_aload_n k_94_0 rfl ?_
  refine r_iload_n k_94_1 rfl ?_
  refine r_callv2 m_94 k_94_2 cl_7_161 m_75 (by decide) rfl rfl (Nat.le_of_ble_eq_true rfl) (Nat.le_of_ble_eq_true rfl) rfl rfl ?_
  refine s_75_bad X hb ?_
  refine r_astoreN k_94_5 rfl ?_
  refine r_aloadN k_94_7 rfl ?_
  refine r_ifnonnullN k_94_9 ?_
  refine r_sipush k_94_12 cs_m1001 ?_
  exact hm_T.ret m_94 k_94_15 rfl hQ
set_option maxRecDepth 20000 in
theorem s_94_out {d n s : Nat} {k : hm_M} {ad : hm_AD} {g : Nat → Nat × Nat} {w : hm_W} {nc np : Nat} {h : Nat → Option va_E} {Q : Option Value → hm_H → Prop} (X : hm_D k ad g nc np n h) {c : Nat} (hc : c < nc) {t x : Int32} (ho : ¬ ((0 ≤ t.toInt ∧ t.toInt ≤ 3) ∧ (0 ≤ x.toInt ∧ x.toInt ≤ 399))) (hQ : Q (some (.int (-1002))) (hm_hC k ad w h n s)) : hm_T (d + 49) 94 0 [.ref 4, .int (nI c), .int t, .int x, .retAddr 0] [] (hm_hC k ad w h n s) Q := by
  refine r_aload_n k_94_0 rfl ?_
  refine r_iload_n k_94_1 rfl ?_
  refine r_callv2 m_94 k_94_2 cl_7_161 m_75 (by decide) rfl rfl (Nat.le_of_ble_eq_true rfl) (Nat.le_of_ble_eq_true rfl) rfl rfl ?_
  refine s_75 X hc ?_
  refine r_astore k_94_5 rfl ?_
  refine r_aload k_94_7 rfl ?_
  refine r_ifnonnull k_94_9 rfl ?_
  refine r_iload_n k_94_16 rfl ?_
  refine r_calls1 m_94 k_94_17 cl_7_144 m_62 (by decide) rfl rfl (Nat.le_of_ble_eq_true rfl) (Nat.le_of_ble_eq_true rfl) ?_
  refine s_62 ?_
  refine r_if_eq k_94_20 rfl (fun c_20 => ?_) (fun c_20 => ?_)
  · have c_20 := hm_if0 c_20
    refine r_sipush k_94_30 cs_m1002 ?_
    exact hm_T.ret m_94 k_94_33 rfl hQ
  · have c_20 := hm_if1 c_20
    refine r_iload_n k_94_23 rfl ?_
    refine r_calls1 m_94 k_94_24 cl_7_151 m_64 (by decide) rfl rfl (Nat.le_of_ble_eq_true rfl) (Nat.le_of_ble_eq_true rfl) ?_
    refine s_64 ?_
    refine r_if_ne k_94_27 rfl (fun c_27 => ?_) (fun c_27 => ?_)
    · have c_27 := hm_if1 c_27
      exact absurd ⟨c_20, c_27⟩ ho
    · have c_27 := hm_if0 (Decidable.of_not_not c_27)
      refine r_sipush k_94_30 cs_m1002 ?_
      exact hm_T.ret m_94 k_94_33 rfl hQ
set_option maxRecDepth 20000 in
theorem s_96_bad {d n s : Nat} {k : hm_M} {ad : hm_AD} {g : Nat → Nat × Nat} {w : hm_W} {nc np : Nat} {h : Nat → Option va_E} {Q : Option Value → hm_H → Prop} (X : hm_D k ad g nc np n h) {c t x : Int32} (hb : ¬ (0 ≤ c.toInt ∧ c.toInt < nc)) (hQ : Q (some (.int (-1001))) (hm_hC k ad w h n s)) : hm_T (d + 49) 96 0 [.ref 4, .int c, .int t, .int x, .retAddr 0, .retAddr 0] [] (hm_hC k ad w h n s) Q := by
  refine r_aload_n k_96_0 rfl ?_
  refine r_iload_n k_96_1 rfl ?_
  refine r_callv2 m_96 k_96_2 cl_7_161 m_75 (by decide) rfl rfl (Nat.le_of_ble_eq_true rfl) (Nat.le_of_ble_eq_true rfl) rfl rfl ?_
  refine s_75_bad X hb ?_
  refine r_astoreN k_96_5 rfl ?_
  refine r_aloadN k_96_7 rfl ?_
  refine r_ifnonnullN k_96_9 ?_
  refine r_sipush k_96_12 cs_m1001 ?_
  exact hm_T.ret m_96 k_96_15 rfl hQ
set_option maxRecDepth 20000 in
theorem s_96_out {d n s : Nat} {k : hm_M} {ad : hm_AD} {g : Nat → Nat × Nat} {w : hm_W} {nc np : Nat} {h : Nat → Option va_E} {Q : Option Value → hm_H → Prop} (X : hm_D k ad g nc np n h) {c : Nat} (hc : c < nc) {t x : Int32} (ho : ¬ ((0 ≤ t.toInt ∧ t.toInt ≤ 3) ∧ (0 ≤ x.toInt ∧ x.toInt ≤ 399))) (hQ : Q (some (.int (-1002))) (hm_hC k ad w h n s)) : hm_T (d + 49) 96 0 [.ref 4, .int (nI c), .int t, .int x, .retAddr 0, .retAddr 0] [] (hm_hC k ad w h n s) Q := by
  refine r_aload_n k_96_0 rfl ?_
  refine r_iload_n k_96_1 rfl ?_
  refine r_callv2 m_96 k_96_2 cl_7_161 m_75 (by decide) rfl rfl (Nat.le_of_ble_eq_true rfl) (Nat.le_of_ble_eq_true rfl) rfl rfl ?_
  refine s_75 X hc ?_
  refine r_astore k_96_5 rfl ?_
  refine r_aload k_96_7 rfl ?_
  refine r_ifnonnull k_96_9 rfl ?_
  refine r_iload_n k_96_16 rfl ?_
  refine r_calls1 m_96 k_96_17 cl_7_144 m_62 (by decide) rfl rfl (Nat.le_of_ble_eq_true rfl) (Nat.le_of_ble_eq_true rfl) ?_
  refine s_62 ?_
  refine r_if_eq k_96_20 rfl (fun c_20 => ?_) (fun c_20 => ?_)
  · have c_20 := hm_if0 c_20
    refine r_sipush k_96_30 cs_m1002 ?_
    exact hm_T.ret m_96 k_96_33 rfl hQ
  · have c_20 := hm_if1 c_20
    refine r_iload_n k_96_23 rfl ?_
    refine r_calls1 m_96 k_96_24 cl_7_151 m_64 (by decide) rfl rfl (Nat.le_of_ble_eq_true rfl) (Nat.le_of_ble_eq_true rfl) ?_
    refine s_64 ?_
    refine r_if_ne k_96_27 rfl (fun c_27 => ?_) (fun c_27 => ?_)
    · have c_27 := hm_if1 c_27
      exact absurd ⟨c_20, c_27⟩ ho
    · have c_27 := hm_if0 (Decidable.of_not_not c_27)
      refine r_sipush k_96_30 cs_m1002 ?_
      exact hm_T.ret m_96 k_96_33 rfl hQ
set_option maxRecDepth 20000 in
theorem s_76 {d n s : Nat} {k : hm_M} {ad : hm_AD} {g : Nat → Nat × Nat} {w : hm_W} {nc np : Nat} {h : Nat → Option va_E} {Q : Option Value → hm_H → Prop} (X : hm_D k ad g nc np n h) {nb : Nat} (I : hc_I k nc nb) {c t hh f : Nat} (hc : c < nc) (ht : t < 4) (hh4 : hh < 400) (hf : f < 4) (hkf : k 10 c = nI f) (hQ : ∀ k2 w2, hc_sc k k2 → Q (some (.int (hc_hi k (ad 0 f) nb nc c t hh))) (hm_hC k2 ad w2 h n s)) : hm_T (d + 49) 76 0 [.ref 4, .int (nI c), .int (nI t), .int (nI hh), .retAddr 0] [] (hm_hC k ad w h n s) Q := by
  refine r_aload_n k_76_0 rfl ?_
  refine r_iload_n k_76_1 rfl ?_
  refine r_callv2 m_76 k_76_2 cl_7_161 m_75 (by decide) rfl rfl (Nat.le_of_ble_eq_true rfl) (Nat.le_of_ble_eq_true rfl) rfl rfl ?_
  refine s_75 X hc ?_
  refine r_astore k_76_5 rfl ?_
  refine r_aload k_76_7 rfl ?_
  refine r_ifnonnull k_76_9 rfl ?_
  refine r_iload_n k_76_16 rfl ?_
  refine r_calls1 m_76 k_76_17 cl_7_144 m_62 (by decide) rfl rfl (Nat.le_of_ble_eq_true rfl) (Nat.le_of_ble_eq_true rfl) ?_
  refine s_62 ?_
  rw [if_pos (by rw [nI_toInt (by omega)]; omega)]
  refine r_if_eq k_76_20 rfl (fun z => absurd z (show ¬ (1 : Int32) = 0 by decide)) (fun c_20 => ?_)
  refine r_iload_n k_76_23 rfl ?_
  refine r_calls1 m_76 k_76_24 cl_7_151 m_64 (by decide) rfl rfl (Nat.le_of_ble_eq_true rfl) (Nat.le_of_ble_eq_true rfl) ?_
  refine s_64 ?_
  rw [if_pos (by rw [nI_toInt (by omega)]; omega)]
  refine r_if_ne k_76_27 rfl (fun c_27 => ?_) (fun z => absurd (show ¬ (1 : Int32) = 0 by decide) z)
  refine r_aload_n k_76_34 rfl ?_
  refine r_aload k_76_35 rfl ?_
  refine r_iload_n k_76_37 rfl ?_
  refine r_iload_n k_76_38 rfl ?_
  refine r_callv4 m_76 k_76_39 cl_7_168 m_77 (by decide) rfl rfl (Nat.le_of_ble_eq_true rfl) (Nat.le_of_ble_eq_true rfl) rfl rfl ?_
  refine s_77 X I hc ht hh4 hf hkf (fun k2 w2 hs => ?_)
  exact hm_T.ret m_76 k_76_42 rfl (hQ k2 w2 hs)
set_option maxRecDepth 20000 in
theorem s_94 {d n s : Nat} {k : hm_M} {ad : hm_AD} {g : Nat → Nat × Nat} {w : hm_W} {nc np : Nat} {h : Nat → Option va_E} {Q : Option Value → hm_H → Prop} (X : hm_D k ad g nc np n h) {nb : Nat} (I : hc_I k nc nb) {c t hh f : Nat} (hc : c < nc) (ht : t < 4) (hh4 : hh < 400) (hf : f < 4) (hkf : k 10 c = nI f) (hQ0 : ¬ hc_hi k (ad 0 f) nb nc c t hh = 0 → ∀ k2 w2, hc_sc k k2 → Q (some (.int (-1003))) (hm_hC k2 ad w2 h n s)) (hQ : hc_hi k (ad 0 f) nb nc c t hh = 0 → ∀ k2 w2, hc_sc k k2 → ∀ h2, hm_D (hc_bk k2 c t hh) ad g nc np n h2 → hm_lo h h2 → Q (some (.int (nI 1))) (hm_hC (hc_bk k2 c t hh) ad w2 h2 n s)) : hm_T (d + 49) 94 0 [.ref 4, .int (nI c), .int (nI t), .int (nI hh), .retAddr 0] [] (hm_hC k ad w h n s) Q := by
  refine r_aload_n k_94_0 rfl ?_
  refine r_iload_n k_94_1 rfl ?_
  refine r_callv2 m_94 k_94_2 cl_7_161 m_75 (by decide) rfl rfl (Nat.le_of_ble_eq_true rfl) (Nat.le_of_ble_eq_true rfl) rfl rfl ?_
  refine s_75 X hc ?_
  refine r_astore k_94_5 rfl ?_
  refine r_aload k_94_7 rfl ?_
  refine r_ifnonnull k_94_9 rfl ?_
  refine r_iload_n k_94_16 rfl ?_
  refine r_calls1 m_94 k_94_17 cl_7_144 m_62 (by decide) rfl rfl (Nat.le_of_ble_eq_true rfl) (Nat.le_of_ble_eq_true rfl) ?_
  refine s_62 ?_
  rw [if_pos (by rw [nI_toInt (by omega)]; omega)]
  refine r_if_eq k_94_20 rfl (fun z => absurd z (show ¬ (1 : Int32) = 0 by decide)) (fun c_20 => ?_)
  refine r_iload_n k_94_23 rfl ?_
  refine r_calls1 m_94 k_94_24 cl_7_151 m_64 (by decide) rfl rfl (Nat.le_of_ble_eq_true rfl) (Nat.le_of_ble_eq_true rfl) ?_
  refine s_64 ?_
  rw [if_pos (by rw [nI_toInt (by omega)]; omega)]
  refine r_if_ne k_94_27 rfl (fun c_27 => ?_) (fun z => absurd (show ¬ (1 : Int32) = 0 by decide) z)
  refine r_aload_n k_94_34 rfl ?_
  refine r_aload k_94_35 rfl ?_
  refine r_iload_n k_94_37 rfl ?_
  refine r_iload_n k_94_38 rfl ?_
  refine r_callv4 m_94 k_94_39 cl_7_168 m_77 (by decide) rfl rfl (Nat.le_of_ble_eq_true rfl) (Nat.le_of_ble_eq_true rfl) rfl rfl ?_
  refine s_77 X I hc ht hh4 hf hkf (fun k2 w2 hs => ?_)
  refine r_if_eq k_94_42 rfl (fun c_42 => ?_) (fun c_42 => ?_)
  · refine r_aload_n k_94_49 rfl ?_
    refine r_aload k_94_50 rfl ?_
    refine r_iload_n k_94_52 rfl ?_
    refine r_iload_n k_94_53 rfl ?_
    refine r_callv4 m_94 k_94_54 cl_7_172 m_95 (by decide) rfl rfl (Nat.le_of_ble_eq_true rfl) (Nat.le_of_ble_eq_true rfl) rfl rfl ?_
    refine s_95 (X.sc hs) hc ht hh4 (hm_hok_c (hs (100 + 2 * c) (by omega)) (I.ho c hc)) (fun h2 X2 hl => ?_)
    refine r_iconst k_94_57 ci_1 ?_
    exact hm_T.ret m_94 k_94_58 rfl (hQ c_42 k2 w2 hs h2 X2 hl)
  · refine r_sipush k_94_45 cs_m1003 ?_
    exact hm_T.ret m_94 k_94_48 rfl (hQ0 c_42 k2 w2 hs)
def hc_ea (k : hm_M) (q nb nc c t : Nat) : Nat → Nat → Int32
  | 0, _ => -1
  | j + 1, i => if hc_hi k q nb nc c t i = 0 then nI i else hc_ea k q nb nc c t j (i + 1)
theorem hc_sc.ea {k k2 : hm_M} (hs : hc_sc k k2) (q nb nc c t : Nat) : ∀ j i, hc_ea k2 q nb nc c t j i = hc_ea k q nb nc c t j i := by
  intro j
  induction j with
  | zero => intro i; rfl
  | succ j ih =>
    intro i
    show (if hc_hi k2 q nb nc c t i = 0 then nI i else hc_ea k2 q nb nc c t j (i + 1)) = _
    rw [hc_sc.hi hs, ih]
    rfl
set_option maxRecDepth 20000 in
theorem l_96 {d n s : Nat} {ad : hm_AD} {g : Nat → Nat × Nat} {nc np : Nat} {h : Nat → Option va_E} {Q : Option Value → hm_H → Prop} {nb : Nat} {c t f : Nat} {y : Int32} (hc : c < nc) (ht : t < 4) (hf : f < 4) : ∀ (j i : Nat) (k : hm_M) (w : hm_W), hm_D k ad g nc np n h → hc_I k nc nb → k 10 c = nI f → i + j = 400 → (∀ k2 w2, hc_sc k k2 → Q (some (.int (hc_ea k (ad 0 f) nb nc c t j i))) (hm_hC k2 ad w2 h n s)) → hm_T (d + 49) 96 37 [.ref 4, .int (nI c), .int (nI t), .int y, .ref (ad 1 c), .int (nI i)] [] (hm_hC k ad w h n s) Q := by
  intro j
  induction j with
  | zero =>
    intro i k w X I hkf hi hQ
    refine r_iload k_96_37 rfl ?_
    refine r_sipush k_96_39 cs_400 ?_
    refine r_icmp_ge k_96_42 rfl (fun c_42 => ?_) (fun z => absurd (nI_le (show 400 ≤ i by omega) (by omega)) z)
    refine r_iconst k_96_66 ci_m1 ?_
    exact hm_T.ret m_96 k_96_67 rfl (hQ k w (hc_sc.rfl2 k))
  | succ j ih =>
    intro i k w X I hkf hi hQ
    refine r_iload k_96_37 rfl ?_
    refine r_sipush k_96_39 cs_400 ?_
    refine r_icmp_ge k_96_42 rfl (fun z => absurd z (nI_ge (show i < 400 by omega) (by omega))) (fun c_42 => ?_)
    refine r_aload_n k_96_45 rfl ?_
    refine r_aload k_96_46 rfl ?_
    refine r_iload_n k_96_48 rfl ?_
    refine r_iload k_96_49 rfl ?_
    refine r_callv4 m_96 k_96_51 cl_7_168 m_77 (by decide) rfl rfl (Nat.le_of_ble_eq_true rfl) (Nat.le_of_ble_eq_true rfl) rfl rfl ?_
    refine s_77 X I hc ht (hh := i) (by omega) hf hkf (fun k2 w2 hs => ?_)
    refine r_if_ne k_96_54 rfl (fun c_54 => ?_) (fun c_54 => ?_)
    · refine r_iincn k_96_60 rfl (nI_inc i) rfl ?_
      refine r_goto k_96_63 rfl ?_
      refine ih (i + 1) k2 w2 (X.sc hs) (hc_sc.I hs I) (by rw [hs 10 (by decide)]; exact hkf) (by omega) (fun k3 w3 hs3 => ?_)
      rw [hc_sc.ea hs]
      have e := hQ k3 w3 (hs.tr hs3)
      rw [show hc_ea k (ad 0 f) nb nc c t (j + 1) i = hc_ea k (ad 0 f) nb nc c t j (i + 1) from if_neg c_54] at e
      exact e
    · have c_54 := Decidable.of_not_not c_54
      refine r_iload k_96_57 rfl ?_
      exact hm_T.ret m_96 k_96_59 rfl (by have e := hQ k2 w2 hs; rw [show hc_ea k (ad 0 f) nb nc c t (j + 1) i = nI i from if_pos c_54] at e; exact e)
set_option maxRecDepth 20000 in
theorem s_96 {d n s : Nat} {k : hm_M} {ad : hm_AD} {g : Nat → Nat × Nat} {w : hm_W} {nc np : Nat} {h : Nat → Option va_E} {Q : Option Value → hm_H → Prop} (X : hm_D k ad g nc np n h) {nb : Nat} (I : hc_I k nc nb) {c t hh f : Nat} (hc : c < nc) (ht : t < 4) (hh4 : hh < 400) (hf : f < 4) (hkf : k 10 c = nI f) (hQ : ∀ k2 w2, hc_sc k k2 → Q (some (.int (hc_ea k (ad 0 f) nb nc c t (400 - hh) hh))) (hm_hC k2 ad w2 h n s)) : hm_T (d + 49) 96 0 [.ref 4, .int (nI c), .int (nI t), .int (nI hh), .retAddr 0, .retAddr 0] [] (hm_hC k ad w h n s) Q := by
  refine r_aload_n k_96_0 rfl ?_
  refine r_iload_n k_96_1 rfl ?_
  refine r_callv2 m_96 k_96_2 cl_7_161 m_75 (by decide) rfl rfl (Nat.le_of_ble_eq_true rfl) (Nat.le_of_ble_eq_true rfl) rfl rfl ?_
  refine s_75 X hc ?_
  refine r_astore k_96_5 rfl ?_
  refine r_aload k_96_7 rfl ?_
  refine r_ifnonnull k_96_9 rfl ?_
  refine r_iload_n k_96_16 rfl ?_
  refine r_calls1 m_96 k_96_17 cl_7_144 m_62 (by decide) rfl rfl (Nat.le_of_ble_eq_true rfl) (Nat.le_of_ble_eq_true rfl) ?_
  refine s_62 ?_
  rw [if_pos (by rw [nI_toInt (by omega)]; omega)]
  refine r_if_eq k_96_20 rfl (fun z => absurd z (show ¬ (1 : Int32) = 0 by decide)) (fun c_20 => ?_)
  refine r_iload_n k_96_23 rfl ?_
  refine r_calls1 m_96 k_96_24 cl_7_151 m_64 (by decide) rfl rfl (Nat.le_of_ble_eq_true rfl) (Nat.le_of_ble_eq_true rfl) ?_
  refine s_64 ?_
  rw [if_pos (by rw [nI_toInt (by omega)]; omega)]
  refine r_if_ne k_96_27 rfl (fun c_27 => ?_) (fun z => absurd (show ¬ (1 : Int32) = 0 by decide) z)
  refine r_iload_n k_96_34 rfl ?_
  refine r_istore k_96_35 rfl ?_
  exact l_96 hc ht hf (400 - hh) hh k w X I hkf (by omega) hQ
set_option maxRecDepth 20000 in
theorem l_100 {d n s : Nat} {k : hm_M} {ad : hm_AD} {g : Nat → Nat × Nat} {w : hm_W} {nc np : Nat} {h : Nat → Option va_E} {Q : Option Value → hm_H → Prop} (X : hm_D k ad g nc np n h) {c : Nat} (hc : c < nc) {hour : Int32} (hcar : hc_car k hour c = true) (hL : (hc_wl k hour nc).length ≤ 4) (hK : ∀ (N P : Nat → Int32) (va : Value), hc_lis k N P (hc_wl k hour nc) → hm_T (d + 3) 100 95 [.ref 4, .int (nI c), .int hour, .int (nI (hc_wl k hour c).length), .int (nI nc), va] [] (hm_hC (hc_kw k N P (hc_wl k hour nc).length) ad w h n s) Q) : ∀ (j i : Nat) (N P : Nat → Int32) (va : Value), va.category = 1 → i + j = nc → hc_lis k N P (hc_wl k hour i) → hm_T (d + 3) 100 19 [.ref 4, .int (nI c), .int hour, .int (if c < i then nI (hc_wl k hour c).length else -1), .int (nI i), va] [] (hm_hC (hc_kw k N P (hc_wl k hour i).length) ad w h n s) Q := by
  intro j
  induction j with
  | zero =>
    intro i N P va hva hi hl
    have hin : i = nc := by omega
    subst hin
    have e0 := hK N P va hl
    rw [show nI (hc_wl k hour c).length = (if c < i then nI (hc_wl k hour c).length else -1) from (if_pos hc).symm] at e0
    refine r_iload k_100_19 rfl ?_
    refine r_aload_n k_100_21 rfl ?_
    refine r_get m_100 k_100_22 fl_7_58 rfl rfl ?_
    refine r_callv1 m_100 k_100_25 cl_7_124 m_41 (by decide) rfl rfl (Nat.le_of_ble_eq_true rfl) (Nat.le_of_ble_eq_true rfl) rfl rfl ?_
    refine s_41c (X.sc (hc_kw_s k N P (hc_wl k hour i).length)) ?_
    refine r_icmp_ge k_100_28 rfl (fun c_28 => ?_) (fun z => absurd (nI_le (Nat.le_refl i) (by have := X.nc16; omega)) z)
    exact e0
  | succ j ih =>
    intro i N P va hva hi hl
    refine r_iload k_100_19 rfl ?_
    refine r_aload_n k_100_21 rfl ?_
    refine r_get m_100 k_100_22 fl_7_58 rfl rfl ?_
    refine r_callv1 m_100 k_100_25 cl_7_124 m_41 (by decide) rfl rfl (Nat.le_of_ble_eq_true rfl) (Nat.le_of_ble_eq_true rfl) rfl rfl ?_
    refine s_41c (X.sc (hc_kw_s k N P (hc_wl k hour i).length)) ?_
    refine r_icmp_ge k_100_28 rfl (fun z => absurd z (nI_ge (show i < nc by omega) (by have := X.nc16; omega))) (fun c_28 => ?_)
    refine r_aload_n k_100_31 rfl ?_
    refine r_get m_100 k_100_32 fl_7_58 rfl rfl ?_
    refine r_iload k_100_35 rfl ?_
    refine r_callv2 m_100 k_100_37 cl_7_128 m_42 (by decide) rfl rfl (Nat.le_of_ble_eq_true rfl) (Nat.le_of_ble_eq_true rfl) rfl rfl ?_
    refine s_42c (X.sc (hc_kw_s k N P (hc_wl k hour i).length)) (c := i) (by omega) ?_
    refine r_cast m_100 k_100_40 nl_7_132 (rD_1 (X.sc (hc_kw_s k N P (hc_wl k hour i).length)) (show i < nc by omega)) ?_
    refine r_astore k_100_43 rfl ?_
    refine r_aload k_100_45 rfl ?_
    refine r_iload_n k_100_47 rfl ?_
    refine r_callv2 m_100 k_100_48 cl_7_228 m_85 (by decide) rfl rfl (Nat.le_of_ble_eq_true rfl) (Nat.le_of_ble_eq_true rfl) (rD_1 (X.sc (hc_kw_s k N P (hc_wl k hour i).length)) (by omega)) rfl ?_
    refine s_85 (X.sc (hc_kw_s k N P (hc_wl k hour i).length)) (c := i) (by omega) ?_
    rw [show (decide (hc_kw k N P (hc_wl k hour i).length (100 + 2 * i) 1 = hour ∨ hc_kw k N P (hc_wl k hour i).length (100 + 2 * i) 3 = hour)) = hc_car k hour i by rw [hc_kw_s k N P (hc_wl k hour i).length (100 + 2 * i) (by omega)]; rfl]
    refine r_if_eq k_100_51 rfl (fun c_51 => ?_) (fun c_51 => ?_)
    · have c_51 := hm_bi0 c_51
      refine r_iincn k_100_89 rfl (nI_inc i) rfl ?_
      refine r_goto k_100_92 rfl ?_
      have eL : hc_wl k hour (i + 1) = hc_wl k hour i := if_neg (by rw [c_51]; decide)
      have e := ih (i + 1) N P (.ref (ad 1 i)) rfl (by omega)
      have hne : ¬ c = i := fun z => by rw [← z, hcar] at c_51; cases c_51
      rw [eL, show (if c < i + 1 then nI (hc_wl k hour c).length else -1) = (if c < i then nI (hc_wl k hour c).length else -1) by (by_cases h1 : c < i); (rw [if_pos h1, if_pos (by omega)]); (rw [if_neg h1, if_neg (by omega)])] at e
      exact e hl
    · have c_51 := hm_bi1 c_51
      have eL : hc_wl k hour (i + 1) = hc_wl k hour i ++ [i] := if_pos c_51
      have hL4 : (hc_wl k hour i).length < 4 := by
        have e1 := hc_wl_le k hour (show i + 1 ≤ nc by omega)
        rw [eL, List.length_append] at e1
        have e2 : [i].length = 1 := rfl
        omega
      refine r_iload k_100_54 rfl ?_
      refine r_iload_n k_100_56 rfl ?_
      refine r_icmp_ne k_100_57 rfl (fun c_57 => ?_) (fun c_57 => ?_)
      · refine r_iload_n k_100_70 rfl ?_
        refine r_istore_n k_100_71 rfl ?_
        refine r_aload_n k_100_72 rfl ?_
        refine r_get m_100 k_100_73 fl_7_19 rfl rfl ?_
        refine r_aload k_100_76 rfl ?_
        refine r_get m_100 k_100_78 fl_7_231 (rD_1 (X.sc (hc_kw_s k N P (hc_wl k hour i).length)) (show i < nc by omega)) rfl ?_
        refine r_aload k_100_81 rfl ?_
        refine r_get m_100 k_100_83 fl_7_234 (rD_1 (X.sc (hc_kw_s k N P (hc_wl k hour i).length)) (show i < nc by omega)) rfl ?_
        refine r_callv3 m_100 k_100_86 cl_7_237 m_86 (by decide) rfl rfl (Nat.le_of_ble_eq_true rfl) (Nat.le_of_ble_eq_true rfl) rfl rfl ?_
        refine s_86 (W := (hc_wl k hour i).length) rfl hL4 ?_
        rw [hc_kw_w]
        refine r_iincn k_100_89 rfl (nI_inc i) rfl ?_
        refine r_goto k_100_92 rfl ?_
        have hne : ¬ c = i := fun z => c_57 (by rw [z])
        have e := ih (i + 1) (upd N (hc_wl k hour i).length (k 12 i)) (upd P (hc_wl k hour i).length (k 13 i)) (.ref (ad 1 i)) rfl (by omega)
        rw [eL, List.length_append, show (if c < i + 1 then nI (hc_wl k hour c).length else -1) = (if c < i then nI (hc_wl k hour c).length else -1) by (by_cases h1 : c < i); (rw [if_pos h1, if_pos (by omega)]); (rw [if_neg h1, if_neg (by omega)])] at e
        exact e (hc_lis_add hl)
      · have c_57 := Decidable.of_not_not c_57
        have hic : i = c := hm_nIinj c_57 (by have := X.nc16; omega) (by have := X.nc16; omega)
        subst hic
        refine r_aload_n k_100_60 rfl ?_
        refine r_get m_100 k_100_61 fl_7_19 rfl rfl ?_
        refine r_get m_100 k_100_64 fl_7_244 rfl rfl ?_
        refine r_goto k_100_67 rfl ?_
        refine r_istore_n k_100_71 rfl ?_
        refine r_aload_n k_100_72 rfl ?_
        refine r_get m_100 k_100_73 fl_7_19 rfl rfl ?_
        refine r_aload k_100_76 rfl ?_
        refine r_get m_100 k_100_78 fl_7_231 (rD_1 (X.sc (hc_kw_s k N P (hc_wl k hour i).length)) (show i < nc by omega)) rfl ?_
        refine r_aload k_100_81 rfl ?_
        refine r_get m_100 k_100_83 fl_7_234 (rD_1 (X.sc (hc_kw_s k N P (hc_wl k hour i).length)) (show i < nc by omega)) rfl ?_
        refine r_callv3 m_100 k_100_86 cl_7_237 m_86 (by decide) rfl rfl (Nat.le_of_ble_eq_true rfl) (Nat.le_of_ble_eq_true rfl) rfl rfl ?_
        refine s_86 (W := (hc_wl k hour i).length) rfl hL4 ?_
        rw [hc_kw_w]
        refine r_iincn k_100_89 rfl (nI_inc i) rfl ?_
        refine r_goto k_100_92 rfl ?_
        have e := ih (i + 1) (upd N (hc_wl k hour i).length (k 12 i)) (upd P (hc_wl k hour i).length (k 13 i)) (.ref (ad 1 i)) rfl (by omega)
        rw [eL, List.length_append, if_pos (show i < i + 1 by omega)] at e
        exact e (hc_lis_add hl)
def hc_bof (k : hm_M) (nb nc c : Nat) (hour : Int32) : Int32 := match hc_V k nb (hc_wl k hour nc) with
  | none => nI 0
  | some ps => ps[(hc_wl k hour c).length]?.getD 0
set_option maxRecDepth 20000 in
theorem s_100 {d n s : Nat} {k : hm_M} {ad : hm_AD} {g : Nat → Nat × Nat} {w : hm_W} {nc np : Nat} {h : Nat → Option va_E} {Q : Option Value → hm_H → Prop} (X : hm_D k ad g nc np n h) {nb : Nat} (I : hc_I k nc nb) {c hh : Nat} (hc : c < nc) (hh4 : hh < 400) {hour : Int32} (hhh : hour = nI hh) (hcar : hc_car k hour c = true) (hQ : ∀ k2 w2, hc_sc k k2 → Q (some (.int (hc_bof k nb nc c hour))) (hm_hC k2 ad w2 h n s)) : hm_T (d + 47) 100 0 [.ref 4, .int (nI c), .int hour, .retAddr 0, .retAddr 0, .retAddr 0] [] (hm_hC k ad w h n s) Q := by
  have hL : (hc_wl k hour nc).length ≤ 4 := by rw [hhh]; exact I.h4 hh hh4
  refine r_iload_n k_100_0 rfl ?_
  refine r_iconst k_100_1 ci_m1 ?_
  refine r_icmp_ne k_100_2 rfl (fun c_2 => ?_) (fun z => absurd (by rw [hhh]; exact hm_nIm hh (by omega)) z)
  refine r_iconst k_100_7 ci_m1 ?_
  refine r_istore_n k_100_8 rfl ?_
  refine r_aload_n k_100_9 rfl ?_
  refine r_get m_100 k_100_10 fl_7_19 rfl rfl ?_
  refine r_callv1 m_100 k_100_13 cl_7_225 m_84 (by decide) rfl rfl (Nat.le_of_ble_eq_true rfl) (Nat.le_of_ble_eq_true rfl) rfl rfl ?_
  refine s_84 ?_
  rw [hc_kw_0]
  refine r_iconst k_100_16 ci_0 ?_
  refine r_istore k_100_17 rfl ?_
  have e0 := l_100 (d := d + 44) (w := w) (s := s) (Q := Q) X hc hcar hL (fun N P va hl => ?_) nc 0 (k 37) (k 38) (.retAddr 0) rfl (by omega) (fun i x hx => by cases hx)
  · rw [if_neg (by omega)] at e0
    exact e0
  · skip
    refine r_aload_n k_100_95 rfl ?_
    refine r_get m_100 k_100_96 fl_7_19 rfl rfl ?_
    refine r_callv1 m_100 k_100_99 cl_7_241 m_87 (by decide) rfl rfl (Nat.le_of_ble_eq_true rfl) (Nat.le_of_ble_eq_true rfl) rfl rfl ?_
    refine s_87 (k := hc_kw k N P (hc_wl k hour nc).length) (nb := nb) (W := (hc_wl k hour nc).length) I.hb I.hb12 rfl hL (fun i hi => ?_) (fun w2 S2 ps e1 e2 => ?_) (fun w2 S2 e1 => ?_)
    · show ∃ nd, N i = nI nd ∧ nd ≤ 6
      rw [(hc_lis_at hl hi).1]
      unfold hc_at
      rw [List.getElem?_eq_getElem hi]
      exact I.h12 _ (hc_wl_lt k hour nc _ (List.getElem_mem hi))
    · have e3 : hc_V k nb (hc_wl k hour nc) = some ps := (hc_lis_V hl).symm.trans e1
      have hrk : (hc_wl k hour c).length < (hc_wl k hour nc).length := by
        have e5 := hc_wl_le k hour (show c + 1 ≤ nc by omega)
        rw [show hc_wl k hour (c + 1) = hc_wl k hour c ++ [c] from if_pos hcar, List.length_append] at e5
        have e6 : [c].length = 1 := rfl
        omega
      have hpl : ps.length = (hc_wl k hour nc).length := by
        unfold hc_V at e3
        split at e3
        · exact hc_ss_len _ _ _ _ e3
        · cases e3
      have hx : ps[(hc_wl k hour c).length]? = some (ps[(hc_wl k hour c).length]'(by omega)) := List.getElem?_eq_getElem _
      have e4 := hQ _ w2 (hc_kw_sc k N P S2 (hc_wl k hour nc).length)
      unfold hc_bof at e4
      rw [e3] at e4
      dsimp only at e4
      rw [hx] at e4
      refine r_if_eq k_100_102 rfl (fun z => absurd z (by decide)) (fun c_102 => ?_)
      refine r_aload_n k_100_105 rfl ?_
      refine r_get m_100 k_100_106 fl_7_19 rfl rfl ?_
      refine r_iload_n k_100_109 rfl ?_
      refine r_callv2 m_100 k_100_110 cl_7_247 m_101 (by decide) rfl rfl (Nat.le_of_ble_eq_true rfl) (Nat.le_of_ble_eq_true rfl) rfl rfl ?_
      refine s_101 (k := hm_uM (hc_kw k N P (hc_wl k hour nc).length) 39 S2) (W := (hc_wl k hour nc).length) (i := (hc_wl k hour c).length) rfl hL hrk ?_
      refine r_goto k_100_113 rfl ?_
      exact hm_T.ret m_100 k_100_117 rfl (by rw [show hm_uM (hc_kw k N P (hc_wl k hour nc).length) 39 S2 39 = S2 from if_pos rfl, e2 _ _ hx]; exact e4)
    · refine r_if_eq k_100_102 rfl (fun c_102 => ?_) (fun z => absurd rfl z)
      refine r_iconst k_100_116 ci_0 ?_
      exact hm_T.ret m_100 k_100_117 rfl (by have e3 : hc_V k nb (hc_wl k hour nc) = none := (hc_lis_V hl).symm.trans e1; have e4 := hQ _ w2 (hc_kw_sc k N P S2 (hc_wl k hour nc).length); unfold hc_bof at e4; rw [e3] at e4; exact e4)
set_option maxRecDepth 20000 in
theorem s_98_bad {d n s : Nat} {k : hm_M} {ad : hm_AD} {g : Nat → Nat × Nat} {w : hm_W} {nc np : Nat} {h : Nat → Option va_E} {Q : Option Value → hm_H → Prop} (X : hm_D k ad g nc np n h) {c t x : Int32} (hb : ¬ (0 ≤ c.toInt ∧ c.toInt < nc)) (hQ : Q (some (.int (-1001))) (hm_hC k ad w h n s)) : hm_T (d + 49) 98 0 [.ref 4, .int c, .int t, .int x, .retAddr 0] [] (hm_hC k ad w h n s) Q := by
  refine r_aload_n k_98_0 rfl ?_
  refine r_iload_n k_98_1 rfl ?_
  refine r_callv2 m_98 k_98_2 cl_7_161 m_75 (by decide) rfl rfl (Nat.le_of_ble_eq_true rfl) (Nat.le_of_ble_eq_true rfl) rfl rfl ?_
  refine s_75_bad X hb ?_
  refine r_astoreN k_98_5 rfl ?_
  refine r_aloadN k_98_7 rfl ?_
  refine r_ifnonnullN k_98_9 ?_
  refine r_sipush k_98_12 cs_m1001 ?_
  exact hm_T.ret m_98 k_98_15 rfl hQ
set_option maxRecDepth 20000 in
theorem s_98_out {d n s : Nat} {k : hm_M} {ad : hm_AD} {g : Nat → Nat × Nat} {w : hm_W} {nc np : Nat} {h : Nat → Option va_E} {Q : Option Value → hm_H → Prop} (X : hm_D k ad g nc np n h) {c : Nat} (hc : c < nc) {t x : Int32} (ho : ¬ (0 ≤ t.toInt ∧ t.toInt ≤ 3)) (hQ : Q (some (.int (-1002))) (hm_hC k ad w h n s)) : hm_T (d + 49) 98 0 [.ref 4, .int (nI c), .int t, .int x, .retAddr 0] [] (hm_hC k ad w h n s) Q := by
  refine r_aload_n k_98_0 rfl ?_
  refine r_iload_n k_98_1 rfl ?_
  refine r_callv2 m_98 k_98_2 cl_7_161 m_75 (by decide) rfl rfl (Nat.le_of_ble_eq_true rfl) (Nat.le_of_ble_eq_true rfl) rfl rfl ?_
  refine s_75 X hc ?_
  refine r_astore k_98_5 rfl ?_
  refine r_aload k_98_7 rfl ?_
  refine r_ifnonnull k_98_9 rfl ?_
  refine r_iload_n k_98_16 rfl ?_
  refine r_calls1 m_98 k_98_17 cl_7_144 m_62 (by decide) rfl rfl (Nat.le_of_ble_eq_true rfl) (Nat.le_of_ble_eq_true rfl) ?_
  refine s_62 ?_
  rw [if_neg ho]
  refine r_if_ne k_98_20 rfl (fun z => absurd z (fun z => z rfl)) (fun c_20 => ?_)
  refine r_sipush k_98_23 cs_m1002 ?_
  exact hm_T.ret m_98 k_98_26 rfl hQ
def hc_pmd (k : hm_M) (nb nc c t : Nat) (x : Int32) : Int32 := if x.toInt = 0 then k (100 + 2 * c) t else if x.toInt = 1 then (if t = 1 then (if k (100 + 2 * c) 1 = -1 then -1 else hm_ch (hm_opn k (k (100 + 2 * c) 1)) 3 0 (nI (hm_cnt (fun i => decide (k (100 + 2 * i) 1 = k (100 + 2 * c) 1)) c))) else -1) else if x.toInt = 2 then (if t = 1 ∨ t = 3 then (if k (100 + 2 * c) t = -1 then nI 0 else hc_bof k nb nc c (k (100 + 2 * c) t)) else nI 0) else -1002
set_option maxRecDepth 20000 in
theorem s_98 {d n s : Nat} {k : hm_M} {ad : hm_AD} {g : Nat → Nat × Nat} {w : hm_W} {nc np : Nat} {h : Nat → Option va_E} {Q : Option Value → hm_H → Prop} (X : hm_D k ad g nc np n h) {nb : Nat} (I : hc_I k nc nb) {c t : Nat} (hc : c < nc) (ht : t < 4) {x : Int32} (hQ : ∀ k2 w2, hc_sc k k2 → Q (some (.int (hc_pmd k nb nc c t x))) (hm_hC k2 ad w2 h n s)) : hm_T (d + 49) 98 0 [.ref 4, .int (nI c), .int (nI t), .int x, .retAddr 0] [] (hm_hC k ad w h n s) Q := by
  refine r_aload_n k_98_0 rfl ?_
  refine r_iload_n k_98_1 rfl ?_
  refine r_callv2 m_98 k_98_2 cl_7_161 m_75 (by decide) rfl rfl (Nat.le_of_ble_eq_true rfl) (Nat.le_of_ble_eq_true rfl) rfl rfl ?_
  refine s_75 X hc ?_
  refine r_astore k_98_5 rfl ?_
  refine r_aload k_98_7 rfl ?_
  refine r_ifnonnull k_98_9 rfl ?_
  refine r_iload_n k_98_16 rfl ?_
  refine r_calls1 m_98 k_98_17 cl_7_144 m_62 (by decide) rfl rfl (Nat.le_of_ble_eq_true rfl) (Nat.le_of_ble_eq_true rfl) ?_
  refine s_62 ?_
  rw [if_pos (by rw [nI_toInt (by omega)]; omega)]
  refine r_if_ne k_98_20 rfl (fun c_20 => ?_) (fun z => absurd (show ¬ (1 : Int32) = 0 by decide) z)
  refine r_iload_n k_98_27 rfl ?_
  by_cases c_28 : x.toInt < 0 ∨ 2 < x.toInt
  · refine r_tableOut k_98_28 c_28 rfl ?_
    refine r_sipush k_98_110 cs_m1002 ?_
    exact hm_T.ret m_98 k_98_113 rfl (by have e := hQ k w (hc_sc.rfl2 k); unfold hc_pmd at e; rw [if_neg (show ¬ x.toInt = 0 by omega), if_neg (show ¬ x.toInt = 1 by omega), if_neg (show ¬ x.toInt = 2 by omega)] at e; exact e)
  · have hs_28 : x.toInt = 0 ∨ x.toInt = 1 ∨ x.toInt = 2 := by omega
    rcases hs_28 with hs_28 | hs_28 | hs_28
    · refine r_tableIn k_98_28 c_28 (by rw [hs_28]; rfl) rfl ?_
      refine r_aload k_98_56 rfl ?_
      refine r_get m_98 k_98_58 fl_7_183 (rD_1 X hc) rfl ?_
      refine r_iload_n k_98_61 rfl ?_
      refine r_ialdn (k := t) k_98_62 (rD_3 X hc) (Or.inl rfl) rfl ht (by decide) ?_
      exact hm_T.ret m_98 k_98_63 rfl (by have e := hQ k w (hc_sc.rfl2 k); unfold hc_pmd at e; rw [if_pos hs_28] at e; exact e)
    · refine r_tableIn k_98_28 c_28 (by rw [hs_28]; rfl) rfl ?_
      refine r_iload_n k_98_64 rfl ?_
      refine r_iconst k_98_65 ci_1 ?_
      refine r_icmp_ne k_98_66 rfl (fun c_66 => ?_) (fun c_66 => ?_)
      · refine r_iconst k_98_84 ci_m1 ?_
        exact hm_T.ret m_98 k_98_85 rfl (by have e := hQ k w (hc_sc.rfl2 k); unfold hc_pmd at e; rw [if_neg (show ¬ x.toInt = 0 by omega), if_pos hs_28, if_neg (fun z => c_66 (congrArg nI z))] at e; exact e)
      · have c_66 := Decidable.of_not_not c_66
        refine r_aload_n k_98_69 rfl ?_
        refine r_iload_n k_98_70 rfl ?_
        refine r_aload k_98_71 rfl ?_
        refine r_get m_98 k_98_73 fl_7_183 (rD_1 X hc) rfl ?_
        refine r_iconst k_98_76 ci_1 ?_
        refine r_ialdn (k := 1) k_98_77 (rD_3 X hc) (Or.inl rfl) rfl (by decide) (by decide) ?_
        refine r_callv3 m_98 k_98_78 cl_7_186 m_99 (by decide) rfl rfl (Nat.le_of_ble_eq_true rfl) (Nat.le_of_ble_eq_true rfl) rfl rfl ?_
        by_cases hm1 : k (100 + 2 * c) 1 = -1
        · rw [hm1]
          refine s_99_no ?_
          refine r_goto k_98_81 rfl ?_
          exact hm_T.ret m_98 k_98_85 rfl (by have e := hQ k w (hc_sc.rfl2 k); unfold hc_pmd at e; rw [if_neg (show ¬ x.toInt = 0 by omega), if_pos hs_28, if_pos (hm_nIinj c_66 (by omega)), if_pos hm1] at e; exact e)
        refine s_99 X hc hm1 ?_
        refine r_goto k_98_81 rfl ?_
        exact hm_T.ret m_98 k_98_85 rfl (by have e := hQ k w (hc_sc.rfl2 k); unfold hc_pmd at e; rw [if_neg (show ¬ x.toInt = 0 by omega), if_pos hs_28, if_pos (hm_nIinj c_66 (by omega)), if_neg hm1] at e; exact e)
    · refine r_tableIn k_98_28 c_28 (by rw [hs_28]; rfl) rfl ?_
      refine r_iload_n k_98_86 rfl ?_
      refine r_calls1 m_98 k_98_87 cl_7_189 m_59 (by decide) rfl rfl (Nat.le_of_ble_eq_true rfl) (Nat.le_of_ble_eq_true rfl) ?_
      refine s_59 ?_
      refine r_if_eq k_98_90 rfl (fun c_90 => ?_) (fun c_90 => ?_)
      · have c_90 := hm_bi0 c_90
        have c_90 : ¬ (t = 1 ∨ t = 3) := fun z => of_decide_eq_false c_90 (z.elim (fun y => Or.inl (by rw [y])) (fun y => Or.inr (by rw [y])))
        refine r_iconst k_98_108 ci_0 ?_
        exact hm_T.ret m_98 k_98_109 rfl (by have e := hQ k w (hc_sc.rfl2 k); unfold hc_pmd at e; rw [if_neg (show ¬ x.toInt = 0 by omega), if_neg (show ¬ x.toInt = 1 by omega), if_pos hs_28, if_neg c_90] at e; exact e)
      · have c_90 := hm_bi1 c_90
        have c_90 : t = 1 ∨ t = 3 := (of_decide_eq_true c_90).elim (fun z => Or.inl (hm_nIinj z (by omega))) (fun z => Or.inr (hm_nIinj z (by omega)))
        refine r_aload_n k_98_93 rfl ?_
        refine r_iload_n k_98_94 rfl ?_
        refine r_aload k_98_95 rfl ?_
        refine r_get m_98 k_98_97 fl_7_183 (rD_1 X hc) rfl ?_
        refine r_iload_n k_98_100 rfl ?_
        refine r_ialdn (k := t) k_98_101 (rD_3 X hc) (Or.inl rfl) rfl ht (by decide) ?_
        refine r_callv3 m_98 k_98_102 cl_7_192 m_100 (by decide) rfl rfl (Nat.le_of_ble_eq_true rfl) (Nat.le_of_ble_eq_true rfl) rfl rfl ?_
        by_cases hm1 : k (100 + 2 * c) t = -1
        · rw [hm1]
          refine r_iload_n k_100_0 rfl ?_
          refine r_iconst k_100_1 ci_m1 ?_
          refine r_icmp_ne k_100_2 rfl (fun z => absurd z (fun z => z rfl)) (fun c_2 => ?_)
          refine r_iconst k_100_5 ci_0 ?_
          refine hm_T.ret m_100 k_100_6 rfl ?_
          refine r_goto k_98_105 rfl ?_
          exact hm_T.ret m_98 k_98_109 rfl (by have e := hQ k w (hc_sc.rfl2 k); unfold hc_pmd at e; rw [if_neg (show ¬ x.toInt = 0 by omega), if_neg (show ¬ x.toInt = 1 by omega), if_pos hs_28, if_pos c_90, if_pos hm1] at e; exact e)
        rcases I.ho c hc t ht with h0 | ⟨hh, hh4, h0⟩
        · exact absurd h0 hm1
        refine s_100 X I hc hh4 h0 (show hc_car k (k (100 + 2 * c) t) c = true from ?_) (fun k2 w2 hs => ?_)
        · unfold hc_car
          rcases c_90 with h1 | h1
          · rw [h1]; exact decide_eq_true (Or.inl rfl)
          · rw [h1]; exact decide_eq_true (Or.inr rfl)
        refine r_goto k_98_105 rfl ?_
        exact hm_T.ret m_98 k_98_109 rfl (by have e := hQ k2 w2 hs; unfold hc_pmd at e; rw [if_neg (show ¬ x.toInt = 0 by omega), if_neg (show ¬ x.toInt = 1 by omega), if_pos hs_28, if_pos c_90, if_neg hm1] at e; exact e)
