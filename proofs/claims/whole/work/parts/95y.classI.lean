/-! THE SEARCH FOR SETS, as the class goes -/
def hc_lq (lk : Nat → Int32) (nb : Nat) (rec : Int32 → Int32 → Option (List Int32)) (ch : Int32) : Nat → Int32 → Option (List Int32)
  | 0, _ => none
  | r + 1, left => if hm_has left (nI (nb - (r + 1))) = true then (match rec (ch ||| nI 1 <<< (nI (nb - (r + 1)) &&& 31)) (left &&& (nI 1 <<< (nI (nb - (r + 1)) &&& 31) ^^^ (-1)) &&& lk (nb - (r + 1))) with
    | some p => some p
    | none => hc_lq lk nb rec ch r (left &&& (nI 1 <<< (nI (nb - (r + 1)) &&& 31) ^^^ (-1)))) else hc_lq lk nb rec ch r left
def hc_fl (lk : Nat → Int32) (nb : Nat) (fin : Int32 → Option (List Int32)) : Nat → Int32 → Int32 → Option (List Int32)
  | 0, ch, _ => fin ch
  | l + 1, ch, fit => hc_lq lk nb (hc_fl lk nb fin l) ch nb fit
def hc_pre (nb : Nat) (aw : Int32) : Int32 := (nI 1 <<< (nI nb &&& 31) - nI 1) &&& (aw ^^^ (-1))
def hc_ss (ht : Nat → Int32) (nb : Nat) (N P : Nat → Int32) : Nat → Nat → Int32 → Option (List Int32)
  | 0, _, _ => some []
  | r + 1, kk, aw => hc_fl (fun one => hc_lkh ht (P kk) one nb) nb (fun x => (hc_ss ht nb N P r (kk + 1) (aw ||| x)).map (fun p => x :: p)) (N kk).toNatClampNeg (nI 0) (hc_pre nb aw)
theorem hc_lq_none {lk : Nat → Int32} {nb : Nat} {rec : Int32 → Int32 → Option (List Int32)} {l : Nat} (hnb : nb ≤ 12) (hrec : ∀ ch fit, hc_pc fit < l → rec ch fit = none) (ch : Int32) : ∀ (r : Nat) (left : Int32), r ≤ nb → hc_pc left < l + 1 → hc_lq lk nb rec ch r left = none := by
  intro r
  induction r with
  | zero => intro left _ _; rfl
  | succ r ih =>
    intro left hr hp
    unfold hc_lq
    by_cases hh : hm_has left (nI (nb - (r + 1))) = true
    · have e := hc_pc_rm (by omega) hh
      have e2 := hc_pc_and (x := left &&& (nI 1 <<< (nI (nb - (r + 1)) &&& 31) ^^^ (-1))) (y := lk (nb - (r + 1)))
      rw [if_pos hh, hrec _ _ (by omega)]
      exact ih _ (by omega) (by omega)
    · rw [if_neg hh]
      exact ih _ (by omega) hp
theorem hc_fl_none {lk : Nat → Int32} {nb : Nat} {fin : Int32 → Option (List Int32)} (hnb : nb ≤ 12) : ∀ (l : Nat) (ch fit : Int32), hc_pc fit < l → hc_fl lk nb fin l ch fit = none := by
  intro l
  induction l with
  | zero => intro ch fit h; omega
  | succ l ih => intro ch fit h; exact hc_lq_none hnb ih ch nb fit (Nat.le_refl _) h
theorem hc_lq_y {lk : Nat → Int32} {nb i r : Nat} {rec : Int32 → Int32 → Option (List Int32)} {ch left : Int32} (hi : i + (r + 1) = nb) (h : hm_has left (nI i) = true) : hc_lq lk nb rec ch (r + 1) left = (match rec (ch ||| nI 1 <<< (nI i &&& 31)) (left &&& (nI 1 <<< (nI i &&& 31) ^^^ (-1)) &&& lk i) with | some p => some p | none => hc_lq lk nb rec ch r (left &&& (nI 1 <<< (nI i &&& 31) ^^^ (-1)))) := by
  have e : nb - (r + 1) = i := by omega
  show (if hm_has left (nI (nb - (r + 1))) = true then _ else _) = _
  rw [e, if_pos h]
theorem hc_lq_n {lk : Nat → Int32} {nb i r : Nat} {rec : Int32 → Int32 → Option (List Int32)} {ch left : Int32} (hi : i + (r + 1) = nb) (h : hm_has left (nI i) = false) : hc_lq lk nb rec ch (r + 1) left = hc_lq lk nb rec ch r left := by
  have e : nb - (r + 1) = i := by omega
  show (if hm_has left (nI (nb - (r + 1))) = true then _ else _) = _
  rw [e, if_neg (by rw [h]; decide)]
def hc_b64 (j : Nat) : Int64 := (1 : Int64) <<< ((nI j).toInt64 &&& 63)
theorem hc_b64_ne : ∀ a b : Fin 64, ¬ a = b → hc_b64 a.val &&& hc_b64 b.val = 0 := by decide +kernel
theorem hc_or64 (x : Int64) {a b : Nat} (ha : a < 64) (hb : b < 64) (hab : ¬ a = b) : (x ||| hc_b64 a) &&& hc_b64 b = x &&& hc_b64 b := by
  have e := hc_b64_ne ⟨a, ha⟩ ⟨b, hb⟩ (fun z => hab (congrArg Fin.val z))
  apply Int64.toBitVec_inj.mp
  have e2 := congrArg Int64.toBitVec e
  show (x.toBitVec ||| (hc_b64 a).toBitVec) &&& (hc_b64 b).toBitVec = x.toBitVec &&& (hc_b64 b).toBitVec
  have e3 : (hc_b64 a).toBitVec &&& (hc_b64 b).toBitVec = 0#64 := e2
  apply BitVec.eq_of_getLsbD_eq
  intro i hi
  have e4 : ((hc_b64 a).toBitVec &&& (hc_b64 b).toBitVec).getLsbD i = (0#64).getLsbD i := by rw [e3]
  rw [BitVec.getLsbD_and, BitVec.getLsbD_zero] at e4
  rw [BitVec.getLsbD_and, BitVec.getLsbD_or, BitVec.getLsbD_and]
  cases h1 : x.toBitVec.getLsbD i <;> cases h2 : (hc_b64 a).toBitVec.getLsbD i <;> cases h3 : (hc_b64 b).toBitVec.getLsbD i <;> rw [h2, h3] at e4 <;> first | rfl | cases e4
theorem hc_cmp0 {x y : Int64} : lg_cmp x y = 0 ↔ x = y := by
  unfold lg_cmp
  by_cases h1 : x > y
  · rw [if_pos h1]
    refine ⟨fun z => absurd z (by decide), fun z => ?_⟩
    subst z
    exact absurd h1 (Int64.lt_irrefl)
  · rw [if_neg h1]
    by_cases h2 : x = y
    · rw [if_pos h2]; exact ⟨fun _ => h2, fun _ => rfl⟩
    · rw [if_neg h2]; exact ⟨fun z => absurd z (by decide), fun z => absurd z h2⟩
/-- what the hopeless rows say is so -/
def hc_hop (k : hm_M) (nb W : Nat) (w : hm_W) : Prop := ∀ i u, 0 < i → i < W → u < 4096 → ¬ w i (u / 64) &&& hc_b64 (u % 64) = 0 → hc_ss (k 3) nb (k 37) (k 38) (W - i) i (nI u) = none
def hc_SU (Q : Option Value → hm_H → Prop) (k : hm_M) (ad : hm_AD) (h : Nat → Option va_E) (n s nb W : Nat) (V : Option (List Int32)) (kk : Nat) (S : Nat → Int32) : Prop := ∀ w2 S2 ps, V = some ps → hc_hop k nb W w2 → (∀ i, i < kk → S2 i = S i) → (∀ i x, ps[i]? = some x → S2 (kk + i) = x) → Q (some (.int (nI 1))) (hm_hC (hm_uM k 39 S2) ad w2 h n s)
def hc_FA (Q : Option Value → hm_H → Prop) (k : hm_M) (ad : hm_AD) (h : Nat → Option va_E) (n s nb W : Nat) (V : Option (List Int32)) (kk : Nat) (S : Nat → Int32) : Prop := ∀ w2 S2, V = none → hc_hop k nb W w2 → (∀ i, i < kk → S2 i = S i) → Q (some (.int (nI 0))) (hm_hC (hm_uM k 39 S2) ad w2 h n s)
theorem hm_cnt_len (P : Nat → Bool) : ∀ n, hm_cnt P n ≤ n := by
  intro n
  induction n with
  | zero => exact Nat.le_refl _
  | succ n ih =>
    show hm_cnt P n + (if P n = true then 1 else 0) ≤ n + 1
    split <;> omega
theorem hm_cnt_12 (P : Nat → Bool) : hm_cnt P 12 ≤ 12 := hm_cnt_len P 12
set_option maxRecDepth 20000 in
theorem l_90 {n s : Nat} {k : hm_M} {ad : hm_AD} {h : Nat → Option va_E} {nb W kk r nd e : Nat} {aw : Int32} (hb : k 2 0 = nI nb) (hb12 : nb ≤ 12) (hW : k 36 0 = nI W) (hW4 : W ≤ 4) (hkr : kk + (r + 1) = W) (hnd : k 37 kk = nI nd) (hnd6 : nd ≤ 6) (hawm : hc_m aw) {l : Nat} {ch fit : Int32} (hl : hc_pc ch + (l + 1) = nd) (hcm : hc_m ch) (ihL : ∀ (Q : Option Value → hm_H → Prop) (ch fit : Int32) (w : hm_W) (S : Nat → Int32), hc_m ch → hc_m fit → (∀ i, i < 12 → hm_has ch (nI i) = true → hm_has fit (nI i) = false) → hc_pc ch + l = nd → hc_hop k nb W w → hc_SU Q k ad h n s nb W (hc_fl (fun one => hc_lkh (k 3) (k 38 kk) one nb) nb (fun x => (hc_ss (k 3) nb (k 37) (k 38) r (kk + 1) (aw ||| x)).map (fun p => x :: p)) l ch fit) kk S → hc_FA Q k ad h n s nb W (hc_fl (fun one => hc_lkh (k 3) (k 38 kk) one nb) nb (fun x => (hc_ss (k 3) nb (k 37) (k 38) r (kk + 1) (aw ||| x)).map (fun p => x :: p)) l ch fit) kk S → hm_T (e + l + 1) 90 0 [.ref 7, .int (nI kk), .int aw, .int ch, .int fit, .retAddr 0, .retAddr 0, .retAddr 0] [] (hm_hC (hm_uM k 39 S) ad w h n s) Q) {Q : Option Value → hm_H → Prop} : ∀ (j i : Nat) (left : Int32) (w : hm_W) (S : Nat → Int32), i + j = nb → hc_m left → (∀ i, i < 12 → hm_has ch (nI i) = true → hm_has left (nI i) = false) → hc_hop k nb W w → hc_SU Q k ad h n s nb W (hc_lq (fun one => hc_lkh (k 3) (k 38 kk) one nb) nb (hc_fl (fun one => hc_lkh (k 3) (k 38 kk) one nb) nb (fun x => (hc_ss (k 3) nb (k 37) (k 38) r (kk + 1) (aw ||| x)).map (fun p => x :: p)) l) ch j left) kk S → hc_FA Q k ad h n s nb W (hc_lq (fun one => hc_lkh (k 3) (k 38 kk) one nb) nb (hc_fl (fun one => hc_lkh (k 3) (k 38 kk) one nb) nb (fun x => (hc_ss (k 3) nb (k 37) (k 38) r (kk + 1) (aw ||| x)).map (fun p => x :: p)) l) ch j left) kk S → hm_T (e + (l + 1) + 1) 90 43 [.ref 7, .int (nI kk), .int aw, .int ch, .int fit, .int (nI (l + 1)), .int left, .int (nI i)] [] (hm_hC (hm_uM k 39 S) ad w h n s) Q := by
  intro j
  induction j with
  | zero =>
    intro i left w S hi hlm hdis hop hS hF
    refine r_iload k_90_43 rfl ?_
    refine r_aload_n k_90_45 rfl ?_
    refine r_get m_90 k_90_46 fl_0_15 rfl rfl ?_
    rw [show hm_uM k 39 S 2 0 = nI nb from hb]
    refine r_icmp_ge k_90_49 rfl (fun c_49 => ?_) (fun z => absurd (nI_le (show nb ≤ i by omega) (by omega)) z)
    refine r_iconst k_90_121 ci_0 ?_
    exact hm_T.ret m_90 k_90_122 rfl (hF w S rfl hop (fun _ _ => rfl))
  | succ j ih =>
    intro i left w S hi hlm hdis hop hS hF
    refine r_iload k_90_43 rfl ?_
    refine r_aload_n k_90_45 rfl ?_
    refine r_get m_90 k_90_46 fl_0_15 rfl rfl ?_
    rw [show hm_uM k 39 S 2 0 = nI nb from hb]
    refine r_icmp_ge k_90_49 rfl (fun z => absurd z (nI_ge (show i < nb by omega) (by omega))) (fun c_49 => ?_)
    refine r_iload k_90_52 rfl ?_
    refine r_calls1 m_90 k_90_54 cl_0_50 m_91 (by decide) rfl rfl (Nat.le_of_ble_eq_true rfl) (Nat.le_of_ble_eq_true rfl) ?_
    refine s_91 ?_
    rw [hc_bc_pc hlm]
    refine r_iload k_90_57 rfl ?_
    refine r_icmp_lt k_90_59 rfl (fun c_59 => ?_) (fun c_59 => ?_)
    · refine r_iconst k_90_121 ci_0 ?_
      exact hm_T.ret m_90 k_90_122 rfl (hF w S (hc_lq_none hb12 (fun c2 f2 => hc_fl_none hb12 l c2 f2) ch (j + 1) left (by omega) (by
        rcases Nat.lt_or_ge (hc_pc left) (l + 1) with h1 | h1
        · exact h1
        · exact absurd c_59 (Int32.not_lt.mpr (nI_le h1 (by have := hm_cnt_12 (fun i => hm_has left (nI i)); show hm_cnt _ 12 < _; omega))))) hop (fun _ _ => rfl))
    · refine r_iload k_90_62 rfl ?_
      refine r_iload k_90_64 rfl ?_
      refine r_calls2 m_90 k_90_66 cl_0_56 m_21 (by decide) rfl rfl (Nat.le_of_ble_eq_true rfl) (Nat.le_of_ble_eq_true rfl) ?_
      refine s_21 ?_
      refine r_if_eq k_90_69 rfl (fun c_69 => ?_) (fun c_69 => ?_)
      · have c_69 := hm_bi0 c_69
        refine r_iincn k_90_115 rfl (nI_inc i) rfl ?_
        refine r_goto k_90_118 rfl ?_
        refine ih (i + 1) left w S (by omega) hlm hdis hop (fun w3 S3 ps f1 f2 f3 f4 => ?_) (fun w3 S3 f1 f2 f3 => ?_)
        · exact hS w3 S3 ps (by rw [hc_lq_n hi c_69]; exact f1) f2 f3 f4
        · exact hF w3 S3 (by rw [hc_lq_n hi c_69]; exact f1) f2 f3
      · have c_69 := hm_bi1 c_69
        refine r_iload k_90_72 rfl ?_
        refine r_iconst k_90_74 ci_1 ?_
        refine r_iload k_90_75 rfl ?_
        refine r_ishl k_90_77 ?_
        refine r_iconst k_90_78 ci_m1 ?_
        refine r_ixor k_90_79 ?_
        refine r_iand k_90_80 ?_
        refine r_istore k_90_81 rfl ?_
        refine r_aload_n k_90_83 rfl ?_
        refine r_iload_n k_90_84 rfl ?_
        refine r_iload_n k_90_85 rfl ?_
        refine r_iload_n k_90_86 rfl ?_
        refine r_iconst k_90_87 ci_1 ?_
        refine r_iload k_90_88 rfl ?_
        refine r_ishl k_90_90 ?_
        refine r_ior k_90_91 ?_
        refine r_iload k_90_92 rfl ?_
        refine r_aload_n k_90_94 rfl ?_
        refine r_iload k_90_95 rfl ?_
        refine r_aload_n k_90_97 rfl ?_
        refine r_get m_90 k_90_98 fl_0_22 rfl rfl ?_
        refine r_iload_n k_90_101 rfl ?_
        refine r_ialdn (k := kk) k_90_102 rfl (Or.inl rfl) rfl (by omega) (by decide) ?_
        refine r_callv3 m_90 k_90_103 cl_0_59 m_92 (by decide) rfl rfl (Nat.le_of_ble_eq_true rfl) (Nat.le_of_ble_eq_true rfl) rfl rfl ?_
        refine s_92 (k := hm_uM k 39 S) hb hb12 (show i < nb by omega) ?_
        refine r_iand k_90_106 ?_
        refine r_callv5 m_90 k_90_107 cl_0_46 m_90 (by decide) rfl rfl (Nat.le_of_ble_eq_true rfl) (Nat.le_of_ble_eq_true rfl) rfl rfl ?_
        have hhi : hm_has ch (nI i) = false := by
          cases hx : hm_has ch (nI i) with
          | false => rfl
          | true => rw [hdis i (by omega) hx] at c_69; cases c_69
        refine ihL _ (ch ||| (nI 1 <<< (nI i &&& 31))) (left &&& ((nI 1 <<< (nI i &&& 31)) ^^^ (-1)) &&& hc_lkh (k 3) (k 38 kk) i nb) w S (hc_m_or hcm (hc_m_1 (by omega))) (hc_m_and (hc_m_and hlm)) (fun q hq hx => ?_) (by rw [hc_pc_or (by omega) hhi]; omega) hop (fun w2 S2 ps e1 e2 e3 e4 => ?_) (fun w2 S2 e1 e2 e3 => ?_)
        · rw [hc_has_and _ _ q (by omega), hc_has_and _ _ q (by omega), hc_has_not _ q (by omega), hc_has_1 i q (by omega) (by omega)]
          rw [hc_has_or _ _ q (by omega), hc_has_1 i q (by omega) (by omega)] at hx
          by_cases hqi : q = i
          · rw [decide_eq_true hqi, Bool.not_true, Bool.and_false, Bool.false_and]
          · rw [decide_eq_false hqi, Bool.or_false] at hx
            rw [hdis q hq hx, Bool.false_and, Bool.false_and]
        · refine r_if_eq k_90_110 rfl (fun z => absurd z (by decide)) (fun c_110 => ?_)
          refine r_iconst k_90_113 ci_1 ?_
          exact hm_T.ret m_90 k_90_114 rfl (hS w2 S2 ps (by rw [hc_lq_y hi c_69, e1]) e2 e3 e4)
        · refine r_if_eq k_90_110 rfl (fun c_110 => ?_) (fun z => absurd rfl z)
          refine r_iincn k_90_115 rfl (nI_inc i) rfl ?_
          refine r_goto k_90_118 rfl ?_
          refine ih (i + 1) (left &&& ((nI 1 <<< (nI i &&& 31)) ^^^ (-1))) w2 S2 (by omega) (hc_m_and hlm) (fun q hq hx => by rw [hc_has_and _ _ q (by omega), hdis q hq hx]; rfl) e2 (fun w3 S3 ps f1 f2 f3 f4 => ?_) (fun w3 S3 f1 f2 f3 => ?_)
          · exact hS w3 S3 ps (by rw [hc_lq_y hi c_69, e1]; exact f1) f2 (fun q hq => (f3 q hq).trans (e3 q hq)) f4
          · exact hF w3 S3 (by rw [hc_lq_y hi c_69, e1]; exact f1) f2 (fun q hq => (f3 q hq).trans (e3 q hq))
set_option maxRecDepth 20000 in
theorem s_90 {n s : Nat} {k : hm_M} {ad : hm_AD} {h : Nat → Option va_E} {nb W kk r nd e : Nat} {aw : Int32} (hb : k 2 0 = nI nb) (hb12 : nb ≤ 12) (hW : k 36 0 = nI W) (hW4 : W ≤ 4) (hkr : kk + (r + 1) = W) (hnd : k 37 kk = nI nd) (hnd6 : nd ≤ 6) (hawm : hc_m aw) (ihF : ∀ (Q : Option Value → hm_H → Prop) (aw2 : Int32) (w : hm_W) (S : Nat → Int32), hc_m aw2 → hc_hop k nb W w → hc_SU Q k ad h n s nb W (hc_ss (k 3) nb (k 37) (k 38) r (kk + 1) aw2) (kk + 1) S → hc_FA Q k ad h n s nb W (hc_ss (k 3) nb (k 37) (k 38) r (kk + 1) aw2) (kk + 1) S → hm_T e 89 0 [.ref 7, .int (nI (kk + 1)), .int aw2, .retAddr 0, .retAddr 0, .retAddr 0, .retAddr 0] [] (hm_hC (hm_uM k 39 S) ad w h n s) Q) : ∀ (l : Nat) (Q : Option Value → hm_H → Prop) (ch fit : Int32) (w : hm_W) (S : Nat → Int32), hc_m ch → hc_m fit → (∀ i, i < 12 → hm_has ch (nI i) = true → hm_has fit (nI i) = false) → hc_pc ch + l = nd → hc_hop k nb W w → hc_SU Q k ad h n s nb W (hc_fl (fun one => hc_lkh (k 3) (k 38 kk) one nb) nb (fun x => (hc_ss (k 3) nb (k 37) (k 38) r (kk + 1) (aw ||| x)).map (fun p => x :: p)) l ch fit) kk S → hc_FA Q k ad h n s nb W (hc_fl (fun one => hc_lkh (k 3) (k 38 kk) one nb) nb (fun x => (hc_ss (k 3) nb (k 37) (k 38) r (kk + 1) (aw ||| x)).map (fun p => x :: p)) l ch fit) kk S → hm_T (e + l + 1) 90 0 [.ref 7, .int (nI kk), .int aw, .int ch, .int fit, .retAddr 0, .retAddr 0, .retAddr 0] [] (hm_hC (hm_uM k 39 S) ad w h n s) Q := by
  intro l
  induction l with
  | zero =>
    intro Q ch fit w S hcm hfm hdis hl hop hS hF
    refine r_aload_n k_90_0 rfl ?_
    refine r_get m_90 k_90_1 fl_0_19 rfl rfl ?_
    refine r_iload_n k_90_4 rfl ?_
    refine r_ialdn (k := kk) k_90_5 rfl (Or.inl rfl) rfl (by omega) (by decide) ?_
    rw [show hm_uM k 39 S 37 kk = nI nd from hnd]
    refine r_iload_n k_90_6 rfl ?_
    refine r_calls1 m_90 k_90_7 cl_0_50 m_91 (by decide) rfl rfl (Nat.le_of_ble_eq_true rfl) (Nat.le_of_ble_eq_true rfl) ?_
    refine s_91 ?_
    rw [hc_bc_pc hcm]
    refine r_isub k_90_10 ?_
    rw [hm_nIsub (show hc_pc ch + 0 = nd from hl)]
    refine r_istore k_90_11 rfl ?_
    refine r_iload k_90_13 rfl ?_
    refine r_if_gt k_90_15 rfl (fun z => absurd z (by decide)) (fun c_15 => ?_)
    refine r_aload_n k_90_18 rfl ?_
    refine r_get m_90 k_90_19 fl_0_25 rfl rfl ?_
    refine r_iload_n k_90_22 rfl ?_
    refine r_iload_n k_90_23 rfl ?_
    refine r_iastn (k := kk) k_90_24 rfl rfl rfl (by omega) (by decide) ((wC_39 _).trans (by rw [hm_uM2])) ?_
    refine r_aload_n k_90_25 rfl ?_
    refine r_iload_n k_90_26 rfl ?_
    refine r_iconst k_90_27 ci_1 ?_
    refine r_iadd k_90_28 ?_
    rw [nI_add]
    refine r_iload_n k_90_29 rfl ?_
    refine r_iload_n k_90_30 rfl ?_
    refine r_ior k_90_31 ?_
    refine r_callv3 m_90 k_90_32 cl_0_42 m_89 (by decide) rfl rfl (Nat.le_of_ble_eq_true rfl) (Nat.le_of_ble_eq_true rfl) rfl rfl ?_
    refine ihF _ (aw ||| ch) w (upd S kk ch) (hc_m_or hawm hcm) hop (fun w2 S2 ps e1 e2 e3 e4 => ?_) (fun w2 S2 e1 e2 e3 => ?_)
    · exact r_retz m_90 k_90_35 rfl (Or.inr rfl) (hS w2 S2 (ch :: ps) (by show (hc_ss (k 3) nb (k 37) (k 38) r (kk + 1) (aw ||| ch)).map _ = _; rw [e1]; rfl) e2 (fun q hq => (e3 q (by omega)).trans (if_neg (by omega))) (fun q x hx => by
        cases q with
        | zero => cases hx; exact (e3 kk (by omega)).trans (if_pos rfl)
        | succ q => have e5 := e4 q x hx; rw [show kk + 1 + q = kk + (q + 1) by omega] at e5; exact e5))
    · exact r_retz m_90 k_90_35 rfl (Or.inl rfl) (hF w2 S2 (by show (hc_ss (k 3) nb (k 37) (k 38) r (kk + 1) (aw ||| ch)).map _ = _; rw [e1]; rfl) e2 (fun q hq => (e3 q (by omega)).trans (if_neg (by omega))))
  | succ l ih =>
    intro Q ch fit w S hcm hfm hdis hl hop hS hF
    refine r_aload_n k_90_0 rfl ?_
    refine r_get m_90 k_90_1 fl_0_19 rfl rfl ?_
    refine r_iload_n k_90_4 rfl ?_
    refine r_ialdn (k := kk) k_90_5 rfl (Or.inl rfl) rfl (by omega) (by decide) ?_
    rw [show hm_uM k 39 S 37 kk = nI nd from hnd]
    refine r_iload_n k_90_6 rfl ?_
    refine r_calls1 m_90 k_90_7 cl_0_50 m_91 (by decide) rfl rfl (Nat.le_of_ble_eq_true rfl) (Nat.le_of_ble_eq_true rfl) ?_
    refine s_91 ?_
    rw [hc_bc_pc hcm]
    refine r_isub k_90_10 ?_
    rw [hm_nIsub hl]
    refine r_istore k_90_11 rfl ?_
    refine r_iload k_90_13 rfl ?_
    refine r_if_gt k_90_15 rfl (fun c_15 => ?_) (fun z => absurd (nI_lt (a := 0) (b := l + 1) (by omega) (by omega)) z)
    refine r_iload k_90_36 rfl ?_
    refine r_istore k_90_38 rfl ?_
    refine r_iconst k_90_40 ci_0 ?_
    refine r_istore k_90_41 rfl ?_
    exact l_90 hb hb12 hW hW4 hkr hnd hnd6 hawm hl hcm ih nb 0 fit w S (by omega) hfm hdis hop hS hF
theorem hc_full : ∀ b : Fin 13, nI 1 <<< (nI b.val &&& 31) - nI 1 = nI (2 ^ b.val - 1) := by decide +kernel
theorem hc_m_pre {nb : Nat} (h : nb ≤ 12) (aw : Int32) : hc_m (hc_pre nb aw) := by
  unfold hc_pre
  rw [hc_full ⟨nb, by omega⟩]
  have e : 2 ^ nb ≤ 2 ^ 12 := Nat.pow_le_pow_right (by decide) h
  exact hc_m_and (hc_m_of (2 ^ nb - 1) (by omega))
theorem hc_pc_00 : hc_pc (nI 0) = 0 := by decide +kernel
theorem hc_hop_set {k : hm_M} {nb W kk r u : Nat} {w : hm_W} (hkr : kk + (r + 1) = W) (hu : u < 4096) (hop : hc_hop k nb W w) (hn : hc_ss (k 3) nb (k 37) (k 38) (r + 1) kk (nI u) = none) : hc_hop k nb W (fun j => if j = kk then vp_updL (w kk) (u / 64) (w kk (u / 64) ||| hc_b64 (u % 64)) else w j) := by
  intro i u2 hi hiW hu2 hne
  by_cases hik : i = kk
  · subst hik
    by_cases huu : u2 = u
    · subst huu
      rw [show W - i = r + 1 by omega]
      exact hn
    · refine hop i u2 hi hiW hu2 (fun z => hne ?_)
      show (if i = i then vp_updL (w i) (u / 64) (w i (u / 64) ||| hc_b64 (u % 64)) else w i) (u2 / 64) &&& hc_b64 (u2 % 64) = 0
      rw [if_pos rfl]
      show (if u2 / 64 = u / 64 then w i (u / 64) ||| hc_b64 (u % 64) else w i (u2 / 64)) &&& hc_b64 (u2 % 64) = 0
      by_cases hd : u2 / 64 = u / 64
      · rw [if_pos hd, hc_or64 _ (by omega) (by omega) (by omega), ← hd]
        exact z
      · rw [if_neg hd]
        exact z
  · refine hop i u2 hi hiW hu2 (fun z => hne ?_)
    show (if i = kk then _ else w i) (u2 / 64) &&& hc_b64 (u2 % 64) = 0
    rw [if_neg hik]
    exact z
set_option maxRecDepth 20000 in
theorem s_89 {n s : Nat} {k : hm_M} {ad : hm_AD} {h : Nat → Option va_E} {nb W : Nat} (hb : k 2 0 = nI nb) (hb12 : nb ≤ 12) (hW : k 36 0 = nI W) (hW4 : W ≤ 4) (hN : ∀ i, i < W → ∃ nd, k 37 i = nI nd ∧ nd ≤ 6) : ∀ (r d kk : Nat) (Q : Option Value → hm_H → Prop) (aw : Int32) (w : hm_W) (S : Nat → Int32), kk + r = W → hc_m aw → hc_hop k nb W w → hc_SU Q k ad h n s nb W (hc_ss (k 3) nb (k 37) (k 38) r kk aw) kk S → hc_FA Q k ad h n s nb W (hc_ss (k 3) nb (k 37) (k 38) r kk aw) kk S → hm_T (d + 9 * r + 9) 89 0 [.ref 7, .int (nI kk), .int aw, .retAddr 0, .retAddr 0, .retAddr 0, .retAddr 0] [] (hm_hC (hm_uM k 39 S) ad w h n s) Q := by
  intro r
  induction r with
  | zero =>
    intro d kk Q aw w S hkr hawm hop hS hF
    refine r_iload_n k_89_0 rfl ?_
    refine r_aload_n k_89_1 rfl ?_
    refine r_get m_89 k_89_2 fl_0_28 rfl rfl ?_
    rw [show hm_uM k 39 S 36 0 = nI W from hW]
    refine r_icmp_lt k_89_5 rfl (fun z => absurd z (Int32.not_lt.mpr (nI_le (show W ≤ kk by omega) (by omega)))) (fun c_5 => ?_)
    refine r_iconst k_89_8 ci_1 ?_
    exact hm_T.ret m_89 k_89_9 rfl (hS w S [] rfl hop (fun _ _ => rfl) (fun i x hx => by cases hx))
  | succ r ih =>
    intro d kk Q aw w S hkr hawm hop hS hF
    obtain ⟨nd, hnd, hnd6⟩ := hN kk (by omega)
    obtain ⟨u, hu, rfl⟩ := hc_m_nat hawm
    have eV : hc_ss (k 3) nb (k 37) (k 38) (r + 1) kk (nI u) = hc_fl (fun one => hc_lkh (k 3) (k 38 kk) one nb) nb (fun x => (hc_ss (k 3) nb (k 37) (k 38) r (kk + 1) (nI u ||| x)).map (fun p => x :: p)) nd (nI 0) (hc_pre nb (nI u)) := by
      show hc_fl _ _ _ (k 37 kk).toNatClampNeg _ _ = _
      rw [hnd, nI_clamp (by omega)]
    refine r_iload_n k_89_0 rfl ?_
    refine r_aload_n k_89_1 rfl ?_
    refine r_get m_89 k_89_2 fl_0_28 rfl rfl ?_
    rw [show hm_uM k 39 S 36 0 = nI W from hW]
    refine r_icmp_lt k_89_5 rfl (fun c_5 => ?_) (fun z => absurd (nI_lt (show kk < W by omega) (by omega)) z)
    refine r_iload_n k_89_10 rfl ?_
    refine r_bipush k_89_11 cb_64 ?_
    refine r_idiv k_89_13 (by decide) ?_
    rw [nI_div u 64 (by omega) (by decide) (by decide)]
    refine r_istore_n k_89_14 rfl ?_
    refine r_lconst k_89_15 cl_1 ?_
    refine r_iload_n k_89_16 rfl ?_
    refine r_bipush k_89_17 cb_64 ?_
    refine r_irem k_89_19 (by decide) ?_
    rw [nI_rem u 64 (by omega) (by decide) (by decide)]
    refine r_lshl k_89_20 (show hm_T _ _ _ _ (.long (hc_b64 (u % 64)) :: _) _ _ from ?_)
    refine r_lstore k_89_21 rfl ?_
    refine r_iload_n k_89_23 rfl ?_
    refine r_if_le k_89_24 rfl (fun c_24 => ?_) (fun c_24 => ?_)
    · refine r_iconst k_89_45 ci_1 ?_
      refine r_aload_n k_89_46 rfl ?_
      refine r_get m_89 k_89_47 fl_0_15 rfl rfl ?_
      rw [show hm_uM k 39 S 2 0 = nI nb from hb]
      refine r_ishl k_89_50 ?_
      refine r_iconst k_89_51 ci_1 ?_
      refine r_isub k_89_52 ?_
      refine r_iload_n k_89_53 rfl ?_
      refine r_iconst k_89_54 ci_m1 ?_
      refine r_ixor k_89_55 ?_
      refine r_iand k_89_56 (show hm_T _ _ _ _ (.int (hc_pre nb (nI u)) :: _) _ _ from ?_)
      refine r_istore k_89_57 rfl ?_
      refine r_aload_n k_89_59 rfl ?_
      refine r_iload_n k_89_60 rfl ?_
      refine r_iload_n k_89_61 rfl ?_
      refine r_iconst k_89_62 ci_0 ?_
      refine r_iload k_89_63 rfl ?_
      refine r_callv5 m_89 k_89_65 cl_0_46 m_90 (by decide) rfl rfl (Nat.le_of_ble_eq_true rfl) (Nat.le_of_ble_eq_true rfl) rfl rfl ?_
      rw [show d + 9 * (r + 1) + 8 = (d + (7 - nd)) + 9 * r + 9 + nd + 1 by omega]
      refine s_90 hb hb12 hW hW4 (show kk + (r + 1) = W by omega) hnd hnd6 hawm (fun Q aw2 w S h1 h2 h3 h4 => ih (d + (7 - nd)) (kk + 1) Q aw2 w S (by omega) h1 h2 h3 h4) nd _ (nI 0) (hc_pre nb (nI u)) w S (hc_m_of 0 (by decide)) (hc_m_pre hb12 _) (fun i hi hx => by rw [hc_has_0 ⟨i, by omega⟩] at hx; cases hx) (by rw [hc_pc_00]; omega) hop (fun w2 S2 ps e1 e2 e3 e4 => ?_) (fun w2 S2 e1 e2 e3 => ?_)
      · refine r_if_eq k_89_68 rfl (fun z => absurd z (by decide)) (fun c_68 => ?_)
        refine r_iconst k_89_71 ci_1 ?_
        exact hm_T.ret m_89 k_89_72 rfl (hS w2 S2 ps (eV.trans e1) e2 e3 e4)
      · refine r_if_eq k_89_68 rfl (fun c_68 => ?_) (fun z => absurd rfl z)
        refine r_aload_n k_89_73 rfl ?_
        refine r_get m_89 k_89_74 fl_0_33 rfl rfl ?_
        refine r_iload_n k_89_77 rfl ?_
        refine r_aaldn (k := kk) k_89_78 rfl (by decide) rfl (by omega) (by decide) (by show va_rf (if kk < 4 then some _ else none) = _; rw [if_pos (by omega)]; try rfl) ?_
        refine r_iload_n k_89_79 rfl ?_
        refine r_dup2 k_89_80 rfl rfl ?_
        refine r_laldn (k := u / 64) k_89_81 (rC_hop (show kk < 4 by omega)) rfl rfl (by omega) (by decide) ?_
        refine r_lload k_89_82 rfl ?_
        refine r_lor k_89_84 ?_
        refine r_lastn (k := u / 64) k_89_85 (rC_hop (show kk < 4 by omega)) rfl rfl (by omega) (by decide) (wC_w kk (by omega) _) ?_
        refine r_iconst k_89_86 ci_0 ?_
        exact hm_T.ret m_89 k_89_87 rfl (hF _ S2 (eV.trans e1) (hc_hop_set (by omega) hu e2 (eV.trans e1)) e3)
    · have hk0 : 0 < kk := by
        rcases Nat.eq_zero_or_pos kk with h1 | h1
        · subst h1; exact absurd (show nI 0 ≤ 0 by decide) c_24
        · exact h1
      refine r_aload_n k_89_27 rfl ?_
      refine r_get m_89 k_89_28 fl_0_33 rfl rfl ?_
      refine r_iload_n k_89_31 rfl ?_
      refine r_aaldn (k := kk) k_89_32 rfl (by decide) rfl (by omega) (by decide) (by show va_rf (if kk < 4 then some _ else none) = _; rw [if_pos (by omega)]; try rfl) ?_
      refine r_iload_n k_89_33 rfl ?_
      refine r_laldn (k := u / 64) k_89_34 (rC_hop (show kk < 4 by omega)) rfl rfl (by omega) (by decide) ?_
      refine r_lload k_89_35 rfl ?_
      refine r_land k_89_37 ?_
      refine r_lconst k_89_38 cl_0 ?_
      refine r_lcmp k_89_39 ?_
      refine r_if_eq k_89_40 rfl (fun c_40 => ?_) (fun c_40 => ?_)
      · refine r_iconst k_89_45 ci_1 ?_
        refine r_aload_n k_89_46 rfl ?_
        refine r_get m_89 k_89_47 fl_0_15 rfl rfl ?_
        rw [show hm_uM k 39 S 2 0 = nI nb from hb]
        refine r_ishl k_89_50 ?_
        refine r_iconst k_89_51 ci_1 ?_
        refine r_isub k_89_52 ?_
        refine r_iload_n k_89_53 rfl ?_
        refine r_iconst k_89_54 ci_m1 ?_
        refine r_ixor k_89_55 ?_
        refine r_iand k_89_56 (show hm_T _ _ _ _ (.int (hc_pre nb (nI u)) :: _) _ _ from ?_)
        refine r_istore k_89_57 rfl ?_
        refine r_aload_n k_89_59 rfl ?_
        refine r_iload_n k_89_60 rfl ?_
        refine r_iload_n k_89_61 rfl ?_
        refine r_iconst k_89_62 ci_0 ?_
        refine r_iload k_89_63 rfl ?_
        refine r_callv5 m_89 k_89_65 cl_0_46 m_90 (by decide) rfl rfl (Nat.le_of_ble_eq_true rfl) (Nat.le_of_ble_eq_true rfl) rfl rfl ?_
        rw [show d + 9 * (r + 1) + 8 = (d + (7 - nd)) + 9 * r + 9 + nd + 1 by omega]
        refine s_90 hb hb12 hW hW4 (show kk + (r + 1) = W by omega) hnd hnd6 hawm (fun Q aw2 w S h1 h2 h3 h4 => ih (d + (7 - nd)) (kk + 1) Q aw2 w S (by omega) h1 h2 h3 h4) nd _ (nI 0) (hc_pre nb (nI u)) w S (hc_m_of 0 (by decide)) (hc_m_pre hb12 _) (fun i hi hx => by rw [hc_has_0 ⟨i, by omega⟩] at hx; cases hx) (by rw [hc_pc_00]; omega) hop (fun w2 S2 ps e1 e2 e3 e4 => ?_) (fun w2 S2 e1 e2 e3 => ?_)
        · refine r_if_eq k_89_68 rfl (fun z => absurd z (by decide)) (fun c_68 => ?_)
          refine r_iconst k_89_71 ci_1 ?_
          exact hm_T.ret m_89 k_89_72 rfl (hS w2 S2 ps (eV.trans e1) e2 e3 e4)
        · refine r_if_eq k_89_68 rfl (fun c_68 => ?_) (fun z => absurd rfl z)
          refine r_aload_n k_89_73 rfl ?_
          refine r_get m_89 k_89_74 fl_0_33 rfl rfl ?_
          refine r_iload_n k_89_77 rfl ?_
          refine r_aaldn (k := kk) k_89_78 rfl (by decide) rfl (by omega) (by decide) (by show va_rf (if kk < 4 then some _ else none) = _; rw [if_pos (by omega)]; try rfl) ?_
          refine r_iload_n k_89_79 rfl ?_
          refine r_dup2 k_89_80 rfl rfl ?_
          refine r_laldn (k := u / 64) k_89_81 (rC_hop (show kk < 4 by omega)) rfl rfl (by omega) (by decide) ?_
          refine r_lload k_89_82 rfl ?_
          refine r_lor k_89_84 ?_
          refine r_lastn (k := u / 64) k_89_85 (rC_hop (show kk < 4 by omega)) rfl rfl (by omega) (by decide) (wC_w kk (by omega) _) ?_
          refine r_iconst k_89_86 ci_0 ?_
          exact hm_T.ret m_89 k_89_87 rfl (hF _ S2 (eV.trans e1) (hc_hop_set (by omega) hu e2 (eV.trans e1)) e3)
      · refine r_iconst k_89_43 ci_0 ?_
        exact hm_T.ret m_89 k_89_44 rfl (hF w S (by have e := hop kk u hk0 (by omega) hu (fun z => c_40 (hc_cmp0.mpr z)); rw [show W - kk = r + 1 by omega] at e; exact e) hop (fun _ _ => rfl))
def hc_wr (w : hm_W) (i : Nat) (f : Nat → Int64) : hm_W := fun j => if j = i then f else w j
theorem hc_wr_wr {w : hm_W} {i : Nat} {f g : Nat → Int64} : (fun j => if j = i then g else hc_wr w i f j) = hc_wr w i g := by
  funext j
  show (if j = i then g else if j = i then f else w j) = (if j = i then g else w j)
  by_cases h : j = i
  · rw [if_pos h, if_pos h]
  · rw [if_neg h, if_neg h, if_neg h]
theorem hc_wr_i {w : hm_W} {i : Nat} : hc_wr w i (w i) = w := by
  funext j
  show (if j = i then w i else w j) = w j
  by_cases h : j = i
  · rw [if_pos h, h]
  · rw [if_neg h]
set_option maxRecDepth 20000 in
theorem l_88 {d n s : Nat} {k : hm_M} {ad : hm_AD} {w : hm_W} {h : Nat → Option va_E} {Q : Option Value → hm_H → Prop} {i : Nat} (hi4 : i < 4) (hQ : ∀ f : Nat → Int64, (∀ q, q < 64 → f q = 0) → Q none (hm_hC k ad (hc_wr w i f) h n s)) : ∀ (j x : Nat) (f : Nat → Int64), x + j = 64 → (∀ q, q < x → f q = 0) → hm_T d 88 6 [.ref (13 + i), .long 0, .retAddr 0, .int (nI x), .int (nI 64)] [] (hm_hC k ad (hc_wr w i f) h n s) Q := by
  intro j
  induction j with
  | zero =>
    intro x f hx hf
    refine r_iload_n k_88_6 rfl ?_
    refine r_iload k_88_7 rfl ?_
    refine r_icmp_ge k_88_9 rfl (fun c_9 => ?_) (fun z => absurd (nI_le (show 64 ≤ x by omega) (by omega)) z)
    exact hm_T.ret m_88 k_88_22 rfl (hQ f (fun q hq => hf q (by omega)))
  | succ j ih =>
    intro x f hx hf
    refine r_iload_n k_88_6 rfl ?_
    refine r_iload k_88_7 rfl ?_
    refine r_icmp_ge k_88_9 rfl (fun z => absurd z (nI_ge (show x < 64 by omega) (by omega))) (fun c_9 => ?_)
    refine r_aload_n k_88_12 rfl ?_
    refine r_iload_n k_88_13 rfl ?_
    refine r_lload_n k_88_14 rfl ?_
    refine r_lastn (k := x) k_88_15 ((rC_hop (w := hc_wr w i f) hi4).trans (by rw [show hc_wr w i f i = f from if_pos rfl])) rfl rfl (by omega) (by decide) ((wC_w i hi4 _).trans (by rw [hc_wr_wr])) ?_
    refine r_iincn k_88_16 rfl (nI_inc x) rfl ?_
    refine r_goto k_88_19 rfl ?_
    refine ih (x + 1) _ (by omega) (fun q hq => ?_)
    by_cases hqx : q = x
    · exact if_pos hqx
    · exact (if_neg hqx).trans (hf q (by omega))
set_option maxRecDepth 20000 in
theorem s_88 {d n s : Nat} {k : hm_M} {ad : hm_AD} {w : hm_W} {h : Nat → Option va_E} {Q : Option Value → hm_H → Prop} {i : Nat} (hi4 : i < 4) (hQ : ∀ f : Nat → Int64, (∀ q, q < 64 → f q = 0) → Q none (hm_hC k ad (hc_wr w i f) h n s)) : hm_T d 88 0 [.ref (13 + i), .long 0, .retAddr 0, .retAddr 0, .retAddr 0] [] (hm_hC k ad w h n s) Q := by
  rw [show hm_hC k ad w h n s = hm_hC k ad (hc_wr w i (w i)) h n s by rw [hc_wr_i]]
  refine r_iconst k_88_0 ci_0 ?_
  refine r_istore_n k_88_1 rfl ?_
  refine r_aload_n k_88_2 rfl ?_
  refine r_alen k_88_3 (rC_hop (w := hc_wr w i (w i)) hi4) rfl ?_
  refine r_istore k_88_4 rfl ?_
  exact l_88 hi4 hQ 64 0 (w i) (by omega) (fun q hq => absurd hq (by omega))
set_option maxRecDepth 20000 in
theorem l_87a {d n s : Nat} {k : hm_M} {ad : hm_AD} {w : hm_W} {h : Nat → Option va_E} {Q : Option Value → hm_H → Prop} {W : Nat} (hW : k 36 0 = nI W) (hW4 : W ≤ 4) (hK : hm_T (d + 1) 87 27 [.ref 7, .int (hm_sg (k 37) W), .int (nI W)] [] (hm_hC k ad w h n s) Q) : ∀ (j i : Nat), i + j = W → hm_T (d + 1) 87 4 [.ref 7, .int (hm_sg (k 37) i), .int (nI i)] [] (hm_hC k ad w h n s) Q := by
  intro j
  induction j with
  | zero =>
    intro i hi
    refine r_iload_n k_87_4 rfl ?_
    refine r_aload_n k_87_5 rfl ?_
    refine r_get m_87 k_87_6 fl_0_28 rfl rfl ?_
    rw [hW]
    refine r_icmp_ge k_87_9 rfl (fun c_9 => ?_) (fun z => absurd (nI_le (show W ≤ i by omega) (by omega)) z)
    rw [show i = W by omega]
    exact hK
  | succ j ih =>
    intro i hi
    refine r_iload_n k_87_4 rfl ?_
    refine r_aload_n k_87_5 rfl ?_
    refine r_get m_87 k_87_6 fl_0_28 rfl rfl ?_
    rw [hW]
    refine r_icmp_ge k_87_9 rfl (fun z => absurd z (nI_ge (show i < W by omega) (by omega))) (fun c_9 => ?_)
    refine r_iload_n k_87_12 rfl ?_
    refine r_aload_n k_87_13 rfl ?_
    refine r_get m_87 k_87_14 fl_0_19 rfl rfl ?_
    refine r_iload_n k_87_17 rfl ?_
    refine r_ialdn (k := i) k_87_18 rfl (Or.inl rfl) rfl (by omega) (by decide) ?_
    refine r_iadd k_87_19 ?_
    refine r_istore_n k_87_20 rfl ?_
    refine r_iincn k_87_21 rfl (nI_inc i) rfl ?_
    refine r_goto k_87_24 rfl ?_
    exact ih (i + 1) (by omega)
set_option maxRecDepth 20000 in
theorem l_87b {d n s : Nat} {k : hm_M} {ad : hm_AD} {h : Nat → Option va_E} {Q : Option Value → hm_H → Prop} {W : Nat} {x : Int32} (hW : k 36 0 = nI W) (hW4 : W ≤ 4) (hK : ∀ (w : hm_W) (i : Nat), (∀ q, 0 < q → q < W → ∀ z, z < 64 → w q z = 0) → hm_T (d + 1) 87 63 [.ref 7, .int x, .int (nI i)] [] (hm_hC k ad w h n s) Q) : ∀ (j i : Nat) (w : hm_W), 0 < i → i + j = W ∨ (j = 0 ∧ W ≤ i) → i < 6 → (∀ q, 0 < q → q < i → ∀ z, z < 64 → w q z = 0) → hm_T (d + 1) 87 39 [.ref 7, .int x, .int (nI i)] [] (hm_hC k ad w h n s) Q := by
  intro j
  induction j with
  | zero =>
    intro i w hi0 hi hi6 hz
    refine r_iload_n k_87_39 rfl ?_
    refine r_aload_n k_87_40 rfl ?_
    refine r_get m_87 k_87_41 fl_0_28 rfl rfl ?_
    rw [hW]
    refine r_icmp_ge k_87_44 rfl (fun c_44 => ?_) (fun z => absurd (nI_le (show W ≤ i by omega) (by omega)) z)
    exact hK w i (fun q h1 h2 => hz q h1 (by omega))
  | succ j ih =>
    intro i w hi0 hi hi6 hz
    refine r_iload_n k_87_39 rfl ?_
    refine r_aload_n k_87_40 rfl ?_
    refine r_get m_87 k_87_41 fl_0_28 rfl rfl ?_
    rw [hW]
    refine r_icmp_ge k_87_44 rfl (fun z => absurd z (nI_ge (show i < W by omega) (by omega))) (fun c_44 => ?_)
    refine r_aload_n k_87_47 rfl ?_
    refine r_get m_87 k_87_48 fl_0_33 rfl rfl ?_
    refine r_iload_n k_87_51 rfl ?_
    refine r_aaldn (k := i) k_87_52 rfl (by decide) rfl (by omega) (by decide) (by show va_rf (if i < 4 then some _ else none) = _; rw [if_pos (by omega)]; try rfl) ?_
    refine r_lconst k_87_53 cl_0 ?_
    refine r_calls2 m_87 k_87_54 cl_0_36 m_88 (by decide) rfl rfl (Nat.le_of_ble_eq_true rfl) (Nat.le_of_ble_eq_true rfl) ?_
    refine s_88 (i := i) (by omega) (fun f hf => ?_)
    refine r_iincn k_87_57 rfl (nI_inc i) rfl ?_
    refine r_goto k_87_60 rfl ?_
    refine ih (i + 1) _ (by omega) (by omega) (by omega) (fun q h1 h2 z hz2 => ?_)
    by_cases hqi : q = i
    · exact (congrFun (if_pos hqi) z).trans (hf z hz2)
    · exact (congrFun (if_neg hqi) z).trans (hz q h1 (by omega) z hz2)
theorem hc_z64 (x : Int64) : 0 &&& x = 0 := Int64.zero_and
set_option maxRecDepth 20000 in
theorem s_87 {d n s : Nat} {k : hm_M} {ad : hm_AD} {w : hm_W} {h : Nat → Option va_E} {Q : Option Value → hm_H → Prop} {nb W : Nat} (hb : k 2 0 = nI nb) (hb12 : nb ≤ 12) (hW : k 36 0 = nI W) (hW4 : W ≤ 4) (hN : ∀ i, i < W → ∃ nd, k 37 i = nI nd ∧ nd ≤ 6) (hS : ∀ w2 S2 ps, (if hm_sg (k 37) W ≤ nI nb then hc_ss (k 3) nb (k 37) (k 38) W 0 (nI 0) else none) = some ps → (∀ i x, ps[i]? = some x → S2 i = x) → Q (some (.int (nI 1))) (hm_hC (hm_uM k 39 S2) ad w2 h n s)) (hF : ∀ w2 S2, (if hm_sg (k 37) W ≤ nI nb then hc_ss (k 3) nb (k 37) (k 38) W 0 (nI 0) else none) = none → Q (some (.int (nI 0))) (hm_hC (hm_uM k 39 S2) ad w2 h n s)) : hm_T (d + 46) 87 0 [.ref 7, .retAddr 0, .retAddr 0] [] (hm_hC k ad w h n s) Q := by
  refine r_iconst k_87_0 ci_0 ?_
  refine r_istore_n k_87_1 rfl ?_
  refine r_iconst k_87_2 ci_0 ?_
  refine r_istore_n k_87_3 rfl ?_
  refine l_87a hW hW4 ?_ W 0 (by omega)
  refine r_iload_n k_87_27 rfl ?_
  refine r_aload_n k_87_28 rfl ?_
  refine r_get m_87 k_87_29 fl_0_15 rfl rfl ?_
  rw [hb]
  refine r_icmp_le k_87_32 rfl (fun c_32 => ?_) (fun c_32 => ?_)
  · refine r_iconst k_87_37 ci_1 ?_
    refine r_istore_n k_87_38 rfl ?_
    refine l_87b hW hW4 (fun w i hz => ?_) (W - 1) 1 w (by decide) (by omega) (by decide) (fun q h1 h2 => absurd h2 (by omega))
    rw [show hm_hC k ad w h n s = hm_hC (hm_uM k 39 (k 39)) ad w h n s by rw [hm_uMs]]
    refine r_aload_n k_87_63 rfl ?_
    refine r_iconst k_87_64 ci_0 ?_
    refine r_iconst k_87_65 ci_0 ?_
    refine r_callv3 m_87 k_87_66 cl_0_42 m_89 (by decide) rfl rfl (Nat.le_of_ble_eq_true rfl) (Nat.le_of_ble_eq_true rfl) rfl rfl ?_
    rw [show d + 45 = (d + 9 * (4 - W)) + 9 * W + 9 by omega]
    refine s_89 hb hb12 hW hW4 hN W (d + 9 * (4 - W)) 0 _ (nI 0) w (k 39) (by omega) (hc_m_of 0 (by decide)) (fun i u h1 h2 h3 h4 => absurd (by rw [hz i h1 h2 (u / 64) (by omega)]; exact hc_z64 _) h4) (fun w2 S2 ps e1 e2 e3 e4 => ?_) (fun w2 S2 e1 e2 e3 => ?_)
    · exact r_retz m_87 k_87_69 rfl (Or.inr rfl) (hS w2 S2 ps ((if_pos c_32).trans e1) (fun i x hx => by have e := e4 i x hx; rw [Nat.zero_add] at e; exact e))
    · exact r_retz m_87 k_87_69 rfl (Or.inl rfl) (hF w2 S2 ((if_pos c_32).trans e1))
  · refine r_iconst k_87_35 ci_0 ?_
    exact hm_T.ret m_87 k_87_36 rfl (by have e := hF w (k 39) (if_neg c_32); rw [hm_uMs] at e; exact e)
