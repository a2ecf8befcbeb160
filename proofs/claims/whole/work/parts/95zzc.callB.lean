/-! house, open, feed, days, plan, tie, settle -/
theorem hw_mx {f : Nat → Int32} {v : Int32} : ∀ (j i : Nat) (a : Int32), hm_mx f j i a ≤ v ↔ (a ≤ v ∧ ∀ x, i ≤ x → x < i + j → f x ≤ v) := by
  intro j
  induction j with
  | zero => intro i a; exact ⟨fun z => ⟨z, fun x h1 h2 => by omega⟩, fun z => z.1⟩
  | succ j ih =>
    intro i a
    show hm_mx f j (i + 1) (if a < f i then f i else a) ≤ v ↔ _
    rw [ih]
    have e : (if a < f i then f i else a) ≤ v ↔ (a ≤ v ∧ f i ≤ v) := by
      by_cases h : a < f i
      · rw [if_pos h]
        exact ⟨fun z => ⟨Int32.le_trans (Int32.le_of_lt h) z, z⟩, fun z => z.2⟩
      · rw [if_neg h]
        exact ⟨fun z => ⟨z, Int32.le_trans (Int32.not_lt.mp h) z⟩, fun z => z.1⟩
    rw [e]
    constructor
    · rintro ⟨⟨h1, h2⟩, h3⟩
      refine ⟨h1, fun x h4 h5 => ?_⟩
      by_cases hx : x = i
      · rw [hx]; exact h2
      · exact h3 x (by omega) (by omega)
    · rintro ⟨h1, h2⟩
      exact ⟨⟨h1, h2 i (by omega) (by omega)⟩, fun x h4 h5 => h2 x (by omega) (by omega)⟩
theorem hw_hs {k m : hm_M} {nc w row : Nat} {v : Int32} (hv : 0 ≤ v.toInt) (hrow : ∀ hh, hh < 400 → k row hh = nI (hm_tkn m nc w hh)) : hm_mx (k row) 400 0 (nI 0) ≤ v ↔ hm_all (fun hh => decide (nI (hm_tkn m nc w hh) ≤ v)) 400 0 = true := by
  rw [hw_mx, hm_all_iff]
  constructor
  · rintro ⟨_, h⟩ x h1 h2
    have h3 := h x h1 h2
    rw [hrow x (by omega)] at h3
    exact decide_eq_true h3
  · intro h
    refine ⟨Int32.le_iff_toInt_le.mpr hv, fun x h1 h2 => ?_⟩
    rw [hrow x (by omega)]
    exact of_decide_eq_true (h x h1 h2)
theorem hw_R.h0 {k m : hm_M} {ad : hm_AD} {nc np nb w : Nat} {v : Int32} (R : hw_R k ad m nc np nb) (hq : ∀ i, i < 5 → ad 0 i < 5) (h0 : ∃ c0, upd (m 0) w v 0 = nI c0 ∧ c0 ≤ 4 ∧ ∀ hh, hh < 400 → hm_cnt (fun j => decide (m 15 j = nI hh)) (4 * nc) ≤ c0) : hw_R (hm_uM k 0 (upd (k 0) w v)) ad (hm_uM m 0 (upd (m 0) w v)) nc np nb := by
  obtain ⟨E, U, P, Lw, C, Z, B, A, Y⟩ := R
  refine ⟨E.u (fun _ => by rw [E.1 0 rfl]) (fun z => absurd z (by decide)), U.c (fun j hj => hm_uMo _ _ (by omega)) rfl rfl rfl rfl h0, P.c (fun j hj => hm_uMo _ _ (by omega)) rfl, Lw.c hq (fun j h1 h2 => hm_uMo _ _ (by omega)) rfl, C.c rfl rfl rfl, Z.c (fun j hj => hm_uMo _ _ (by omega)), B.c rfl, A.c rfl rfl rfl, Y.c (fun j hj => hm_uMo _ _ (by omega)) (fun j hj => hm_uMo _ _ (by omega))⟩
theorem hw_X0 {k : hm_M} {ad : hm_AD} {g : Nat → Nat × Nat} {nc np n : Nat} {h : Nat → Option va_E} (X : hm_D k ad g nc np n h) (f : Nat → Int32) : hm_D (hm_uM k 0 f) ad g nc np n h := X.st (fun j hj => hm_uMo _ _ (by omega)) ⟨rfl, rfl, rfl, rfl, rfl, rfl, rfl, rfl, rfl, rfl, rfl, rfl, rfl⟩
theorem t_house {d e L : Nat} {xs : Nat → Int32} {hp : hm_H} {Q : Option Value → hm_H → Prop} (S : hw_S L xs hp) {x v : Int32} (K : hw_K L xs 118 (e + 4) [.ref 61, .int x, .int v, .retAddr 0, .retAddr 0] Q) : hm_T (d + 2) 12 0 [.ref 4, .int x, .int v, .retAddr 0] [] hp Q := by
  obtain ⟨k, ad, w, g, nc, np, nb, m, h, n, s, rfl, H, X, R, N⟩ := S
  have e0 := R.E.1 0 rfl
  have hnc := X.nc16
  by_cases c : 0 ≤ x.toInt ∧ x.toInt ≤ 2
  · obtain ⟨j, hj, rfl, _, _⟩ := hm_nIof2 (N := 3) c.1 (by have := c.2; omega)
    have hrows := R.U.2.2.2.2.1
    match j, hj with
    | 0, _ =>
      by_cases cv : 0 ≤ v.toInt ∧ v.toInt ≤ 4
      · refine s_12_0 X cv (hw_go K H (s_118_0 R.Z.1 X.nc16 cv ?_))
        have hi := hw_hs (k := k) (m := m) (nc := nc) (w := 0) (row := 40) cv.1 (fun hh h4 => by rw [hr_tkn]; exact (hrows hh h4).1)
        by_cases cc : hm_mx (k 40) 400 0 (nI 0) ≤ v
        · rw [show oc_house_0 k v = (k 0 0, hm_uM k 0 (upd (k 0) 0 v)) from if_pos cc, show op_house m nc 0 v = (m 0 0, hm_uM m 0 (upd (m 0) 0 v)) from if_pos (hi.mp cc)]
          refine ⟨by rw [e0], hw_fin H (hw_X0 X _) (R.h0 X.p ?_) N⟩
          obtain ⟨c0, h5, rfl, _, _⟩ := hm_nIof2 (N := 5) cv.1 (by have := cv.2; omega)
          refine ⟨c0, rfl, by omega, fun hh h4 => ?_⟩
          have h6 := of_decide_eq_true ((hm_all_iff 400 0).mp (hi.mp cc) hh (by omega) (by omega))
          rw [hr_tkn] at h6
          have h7 := hm_cnt_len (fun j => decide (m 15 j = nI hh)) (4 * nc)
          exact (hx_leI (by omega) (by omega)).mp h6
        · rw [show oc_house_0 k v = (-1003, k) from if_neg cc, show op_house m nc 0 v = (-1003, m) from if_neg (fun z => cc (hi.mpr z))]
          exact ⟨rfl, hw_fin H X R N⟩
      · exact s_12_0_out X cv (hw_go K H (s_118_0_out cv ⟨rfl, hw_fin H X R N⟩))
    | 1, _ =>
      by_cases cv : 0 ≤ v.toInt ∧ v.toInt ≤ 3
      · refine s_12_1 X cv (hw_go K H (s_118_1 R.Z.1 X.nc16 cv ?_))
        have hi := hw_hs (k := k) (m := m) (nc := nc) (w := 1) (row := 42) cv.1 (fun hh h4 => (hrows hh h4).2.2.1)
        by_cases cc : hm_mx (k 42) 400 0 (nI 0) ≤ v
        · rw [show oc_house_1 k v = (k 0 1, hm_uM k 0 (upd (k 0) 1 v)) from if_pos cc, show op_house m nc 1 v = (m 0 1, hm_uM m 0 (upd (m 0) 1 v)) from if_pos (hi.mp cc)]
          exact ⟨by rw [e0], hw_fin H (hw_X0 X _) (R.h0 X.p R.U.2.2.2.1) N⟩
        · rw [show oc_house_1 k v = (-1003, k) from if_neg cc, show op_house m nc 1 v = (-1003, m) from if_neg (fun z => cc (hi.mpr z))]
          exact ⟨rfl, hw_fin H X R N⟩
      · exact s_12_1_out X cv (hw_go K H (s_118_1_out cv ⟨rfl, hw_fin H X R N⟩))
    | 2, _ =>
      by_cases cv : 0 ≤ v.toInt ∧ v.toInt ≤ 8
      · refine s_12_2 X cv (hw_go K H (s_118_2 R.Z.1 X.nc16 cv ?_))
        have hi := hw_hs (k := k) (m := m) (nc := nc) (w := 2) (row := 43) cv.1 (fun hh h4 => (hrows hh h4).2.2.2.1)
        by_cases cc : hm_mx (k 43) 400 0 (nI 0) ≤ v
        · rw [show oc_house_2 k v = (k 0 2, hm_uM k 0 (upd (k 0) 2 v)) from if_pos cc, show op_house m nc 2 v = (m 0 2, hm_uM m 0 (upd (m 0) 2 v)) from if_pos (hi.mp cc)]
          exact ⟨by rw [e0], hw_fin H (hw_X0 X _) (R.h0 X.p R.U.2.2.2.1) N⟩
        · rw [show oc_house_2 k v = (-1003, k) from if_neg cc, show op_house m nc 2 v = (-1003, m) from if_neg (fun z => cc (hi.mpr z))]
          exact ⟨rfl, hw_fin H X R N⟩
      · exact s_12_2_out X cv (hw_go K H (s_118_2_out cv ⟨rfl, hw_fin H X R N⟩))
    | j + 3, h => omega
  · exact s_12_bad c (hw_go K H (s_118_bad c ⟨rfl, hw_fin H X R N⟩))
theorem hw_and1 (x : Int32) : x &&& nI 1 = nI 1 ∨ x &&& nI 1 = nI 0 := by
  have e : (x &&& nI 1).toBitVec = x.toBitVec &&& 1#32 := rfl
  rw [← Int32.toBitVec_inj, ← Int32.toBitVec_inj, e]
  rw [BitVec.and_one_eq_setWidth_ofBool_getLsbD]
  cases x.toBitVec.getLsbD 0 with
  | true => left; decide
  | false => right; decide
theorem hw_bits {f : Nat → Int32} {z : Int32} : ∀ n, hm_sg (fun j => f j >>> z &&& nI 1) n = nI (hm_cnt (fun j => decide (f j >>> z &&& nI 1 = nI 1)) n) := by
  intro n
  induction n with
  | zero => rfl
  | succ n ih =>
    show hm_sg (fun j => f j >>> z &&& nI 1) n + (f n >>> z &&& nI 1) = nI (hm_cnt (fun j => decide (f j >>> z &&& nI 1 = nI 1)) n + (if decide (f n >>> z &&& nI 1 = nI 1) = true then 1 else 0))
    rw [ih, ← nI_add]
    congr 1
    rcases hw_and1 (f n >>> z) with h | h
    · rw [h, if_pos (decide_eq_true rfl)]
    · rw [h, if_neg (by decide)]
theorem hw_opn {k m : hm_M} (h : k 1 = m 1) (hh : Nat) : nI (hm_cnt (hm_opn k (nI hh)) 3) = hm_sg (fun j => m 1 j >>> ((nI hh - nI hh / nI 10 * nI 10) &&& 31) &&& nI 1) 3 := by
  rw [hw_bits (f := m 1)]
  unfold hm_opn
  rw [h]
theorem t_open {d e L : Nat} {xs : Nat → Int32} {hp : hm_H} {Q : Option Value → hm_H → Prop} (S : hw_S L xs hp) {x v : Int32} (K : hw_K L xs 125 (e + 3) [.ref 61, .int x, .int v, .retAddr 0, .retAddr 0] Q) : hm_T (d + 4) 16 0 [.ref 4, .int x, .int v, .retAddr 0] [] hp Q := by
  obtain ⟨k, ad, w, g, nc, np, nb, m, h, n, s, rfl, H, X, R, N⟩ := S
  have e1 := R.E.1 1 rfl
  by_cases c : 0 ≤ x.toInt ∧ x.toInt ≤ 2
  · by_cases cv : 0 ≤ v.toInt ∧ v.toInt ≤ 1023
    · obtain ⟨j, hj, rfl, _, _⟩ := hm_nIof2 (N := 3) c.1 (by have := c.2; omega)
      refine s_16 hj cv (hw_go K H (s_125 R.Z.1 X.nc16 hj cv ?_))
      have hi : hm_all (hm_esc (hm_uM k 1 (upd (k 1) j v))) 400 0 = hm_all (hm_opk (hm_uM m 1 (upd (m 1) j v)) nc) 400 0 := hm_all_c 400 0 (fun i _ h2 => by
        unfold hm_esc hm_opk
        have e2 := hw_opn (k := hm_uM k 1 (upd (k 1) j v)) (m := hm_uM m 1 (upd (m 1) j v)) (by rw [hm_uMe, hm_uMe, e1]) i
        rw [e2]
        have e3 : hm_uM k 1 (upd (k 1) j v) 41 i = nI (hm_cnt (fun c => decide (m 15 (4 * c + 1) = nI i)) nc) := (R.U.2.2.2.2.1 i (by omega)).2.1
        rw [e3]
        rfl)
      by_cases cc : hm_all (hm_esc (hm_uM k 1 (upd (k 1) j v))) 400 0 = true
      · rw [show oc_open k j v = (k 1 j, hm_uM k 1 (upd (k 1) j v)) from if_pos cc, show op_open m nc j v = (m 1 j, hm_uM m 1 (upd (m 1) j v)) from if_pos (by rw [← hi]; exact cc)]
        exact ⟨by rw [e1], hw_fin H (X.st (fun j hj => hm_uMo _ _ (by omega)) ⟨rfl, rfl, rfl, rfl, rfl, rfl, rfl, rfl, rfl, rfl, rfl, rfl, rfl⟩) (R.c X.p (R.E.u (fun _ => by rw [e1]) (fun z => absurd z (by decide))) (fun j hj => hm_uMo _ _ (by omega)) (fun j hj => hm_uMo _ _ (by omega))) N⟩
      · rw [show oc_open k j v = (-1003, k) from if_neg cc, show op_open m nc j v = (-1003, m) from if_neg (by rw [← hi]; exact cc)]
        exact ⟨rfl, hw_fin H X R N⟩
    · obtain ⟨j, hj, rfl, _, _⟩ := hm_nIof2 (N := 3) c.1 (by have := c.2; omega)
      exact s_16_out c cv (hw_go K H (s_125_out hj cv ⟨rfl, hw_fin H X R N⟩))
  · exact s_16_bad c (hw_go K H (s_125_bad c ⟨rfl, hw_fin H X R N⟩))
/-! feed -/
theorem hw_s1 : ∀ i : Fin 8, (((nI 8 * nI i.val).toInt64 &&& 63).toBitVec.smod 64).toNat = 8 * i.val := by decide +kernel
theorem hw_s2 : ∀ i : Fin 8, (((nI 8 * nI i.val).toInt64.toUInt64 &&& Int64.toUInt64 63).toBitVec % 64#64).toNat = 8 * i.val := by decide +kernel
theorem hw_255 : ∀ j : Fin 32, (255 : Int64).toBitVec.getLsbD j.val = decide (j.val < 8) := by decide +kernel
theorem hw_255b : ∀ j : Fin 32, (nI 255).toBitVec.getLsbD j.val = decide (j.val < 8) := by decide +kernel
theorem hw_by1 (b : Int64) (i : Nat) (hi : i < 8) (j : Nat) (hj : j < 32) : (hm_by b i).toBitVec.getLsbD j = (decide (j < 8) && b.toBitVec.getLsbD (8 * i + j)) := by
  have s1 := hw_s1 ⟨i, hi⟩
  have s3 := hw_255 ⟨j, hj⟩
  dsimp only at s1 s3
  show ((b.toBitVec.sshiftRight' (((nI 8 * nI i).toInt64 &&& 63).toBitVec.smod 64) &&& (255 : Int64).toBitVec).signExtend 32).getLsbD j = _
  rw [BitVec.getLsbD_signExtend, decide_eq_true hj, Bool.true_and, if_pos (by omega), BitVec.getLsbD_and, BitVec.getLsbD_sshiftRight', s1, s3]
  by_cases h8 : j < 8
  · rw [decide_eq_true h8, if_pos (by omega), decide_eq_false (by omega), Bool.and_true, Bool.true_and]
    rfl
  · rw [decide_eq_false h8, Bool.and_false, Bool.false_and]
theorem hw_by (b : Int64) (i : Nat) (hi : i < 8) : hm_byc b i = hm_by b i := by
  have s2 := hw_s2 ⟨i, hi⟩
  dsimp only at s2
  apply Int32.toBitVec_inj.mp
  apply BitVec.eq_of_getLsbD_eq
  intro j hj
  have s3 := hw_255b ⟨j, hj⟩
  dsimp only at s3
  rw [hw_by1 b i hi j hj]
  show (((b.toBitVec >>> (((nI 8 * nI i).toInt64.toUInt64 &&& Int64.toUInt64 63).toBitVec % 64#64).toNat).signExtend 32) &&& (nI 255).toBitVec).getLsbD j = _
  rw [BitVec.getLsbD_and, BitVec.getLsbD_signExtend, decide_eq_true hj, Bool.true_and, if_pos (by omega), BitVec.getLsbD_ushiftRight, s2, s3, Bool.and_comm]
theorem hw_by0 (b : Int64) (i : Nat) (hi : i < 8) : 0 ≤ hm_by b i := by
  have e : (hm_by b i).toBitVec.toNat < 2 ^ 8 := by
    apply Nat.lt_pow_two_of_testBit (n := 8)
    intro j hj
    by_cases h2 : j < 32
    · have e := hw_by1 b i hi j h2
      rw [decide_eq_false (by omega), Bool.false_and] at e
      exact e
    · exact Nat.testBit_lt_two_pow (Nat.lt_of_lt_of_le (hm_by b i).toBitVec.isLt (Nat.pow_le_pow_right (by decide) (by omega)))
  have e2 : hm_by b i = nI (hm_by b i).toBitVec.toNat := by
    apply Int32.toBitVec_inj.mp
    show (hm_by b i).toBitVec = BitVec.ofNat 32 (hm_by b i).toBitVec.toNat
    rw [BitVec.ofNat_toNat, BitVec.setWidth_eq]
  rw [e2]
  exact nI_pos' (by omega)
theorem hw_fdc_o {b : Int64} {x : Nat} (h6 : ¬ x = 6) (h7 : ¬ x = 7) : ∀ (N tx : Nat) (k : hm_M), hm_fdc b N tx k x = k x := by
  intro N
  induction N with
  | zero => intro tx k; rfl
  | succ N ih =>
    intro tx k
    show hm_fdc b N (tx + 1) _ x = _
    rw [ih, hm_uMo _ _ h7, hm_uMo _ _ h6]
theorem hw_fd {b : Int64} {ad : hm_AD} {nc np nb : Nat} (hq : ∀ i, i < 5 → ad 0 i < 5) : ∀ (N tx : Nat) (k m : hm_M), N ≤ 8 → tx + N ≤ 100 → m 7 0 = nI tx → hw_R k ad m nc np nb → hw_R (hm_fdc b N tx k) ad (hm_fd b N tx m) nc np nb := by
  intro N
  induction N with
  | zero => intro tx k m _ _ _ R; exact R
  | succ N ih =>
    intro tx k m h8 h100 h7 R
    refine ih (tx + 1) _ _ (by omega) (by omega) (nI_add tx 1) ?_
    have oth : ∀ j, ¬ j = 6 → ¬ j = 7 → hm_uM (hm_uM m 6 (upd (m 6) tx (hm_by b N))) 7 (fun _ => nI tx + nI 1) j = m j := fun j h1 h2 => by rw [hm_uMo _ _ h2, hm_uMo _ _ h1]
    have othk : ∀ j, ¬ j = 6 → ¬ j = 7 → hm_uM (hm_uM k 6 (upd (k 6) tx (hm_byc b N))) 7 (fun _ => nI tx + nI 1) j = k j := fun j h1 h2 => by rw [hm_uMo _ _ h2, hm_uMo _ _ h1]
    obtain ⟨E, U, P, Lw, C, Z, B, A, Y⟩ := R
    refine ⟨(E.u (fun _ => by rw [E.1 6 rfl, hw_by b N (by omega)]) (fun z => absurd z (by decide))).u (fun z => absurd z (by decide)) (fun _ => rfl), U.c (fun j hj => othk j (by omega) (by omega)) rfl rfl rfl rfl U.2.2.2.1, P.c (fun j hj => othk j (by omega) (by omega)) rfl, Lw.c hq (fun j h1 h2 => othk j (by omega) (by omega)) rfl, C.c rfl rfl rfl, ?_, B.c rfl, A.c rfl rfl rfl, Y.c (fun j hj => othk j (by omega) (by omega)) (fun j hj => oth j (by omega) (by omega))⟩
    obtain ⟨z1, z2, z3, z4, z5, ⟨N0, z6, z7, z8⟩, z9⟩ := Z
    have en : N0 = tx := hm_nIinj (z7.symm.trans h7) (by omega) (by omega)
    refine ⟨z1, z2, z3, z4, z5, ⟨tx + 1, by omega, nI_add tx 1, fun i hi => ?_⟩, z9⟩
    show 0 ≤ upd (m 6) tx (hm_by b N) i
    by_cases hit : i = tx
    · rw [show upd (m 6) tx (hm_by b N) i = hm_by b N from if_pos hit]
      exact hw_by0 b N (by omega)
    · rw [show upd (m 6) tx (hm_by b N) i = m 6 i from if_neg hit]
      exact z8 i (by omega)
theorem t_feed {d e L : Nat} {xs : Nat → Int32} {hp : hm_H} {Q : Option Value → hm_H → Prop} (S : hw_S L xs hp) {x : Int32} {b : Int64} (K : hw_K L xs 128 (e + 1) [.ref 61, .int x, .long b, .retAddr 0, .retAddr 0] Q) : hm_T (d + 1) 24 0 [.ref 4, .int x, .long b, .retAddr 0] [] hp Q := by
  obtain ⟨k, ad, w, g, nc, np, nb, m, h, n, s, rfl, H, X, R, N⟩ := S
  obtain ⟨tx, t1, t2, _⟩ := R.Z.2.2.2.2.2.1
  have t3 : k 7 0 = nI tx := (R.E.2 7 rfl).trans t2
  by_cases c : 1 ≤ x.toInt ∧ x.toInt ≤ 8
  · obtain ⟨N0, h9, rfl, ei, _⟩ := hm_nIof2 (x := x) (N := 9) (by omega) (by omega)
    have hN : 1 ≤ N0 ∧ N0 ≤ 8 := by omega
    by_cases cf : tx + N0 ≤ 100
    · refine s_24 t3 hN cf (hw_go K H (s_128 t2 hN cf ⟨rfl, hw_fin H (X.st (fun j hj => hw_fdc_o (by omega) (by omega) _ _ _) ?_) (hw_fd X.p N0 tx k m hN.2 cf t2 R) N⟩))
      have o : ∀ j, ¬ j = 6 → ¬ j = 7 → hm_fdc b N0 tx k j = k j := fun j h6 h7 => hw_fdc_o h6 h7 _ _ _
      exact ⟨o 9 (by decide) (by decide), o 10 (by decide) (by decide), o 11 (by decide) (by decide), o 12 (by decide) (by decide), o 13 (by decide) (by decide), o 34 (by decide) (by decide), o 16 (by decide) (by decide), o 18 (by decide) (by decide), o 19 (by decide) (by decide), o 20 (by decide) (by decide), o 21 (by decide) (by decide), o 33 (by decide) (by decide), o 22 (by decide) (by decide)⟩
    · exact s_24_full t3 hN t1 (by omega) (hw_go K H (s_128_full t2 hN t1 (by omega) ⟨rfl, hw_fin H X R N⟩))
  · exact s_24_out c (hw_go K H (s_128_out c ⟨rfl, hw_fin H X R N⟩))
