/-! BITS: a set of bearers -/
theorem hc_sm : ∀ i : Fin 32, ((nI i.val &&& 31).toBitVec.smod 32).toNat = i.val := by decide +kernel
theorem hc_and1 (b : BitVec 32) : (b &&& 1#32 = 1#32) ↔ b.getLsbD 0 = true := by
  rw [BitVec.and_one_eq_setWidth_ofBool_getLsbD]
  cases b.getLsbD 0 <;> decide
theorem hc_has_bv (x : Int32) (i : Nat) (hi : i < 32) : hm_has x (nI i) = x.toBitVec.getLsbD i := by
  have e : (x >>> (nI i &&& 31)).toBitVec = x.toBitVec.sshiftRight i := by
    show x.toBitVec.sshiftRight' ((nI i &&& 31).toBitVec.smod 32) = _
    unfold BitVec.sshiftRight'
    rw [hc_sm ⟨i, hi⟩]
  unfold hm_has
  have e2 : (x >>> (nI i &&& 31) &&& nI 1 = nI 1) ↔ x.toBitVec.getLsbD i = true := by
    rw [← Int32.toBitVec_inj]
    show ((x >>> (nI i &&& 31)).toBitVec &&& 1#32 = 1#32) ↔ _
    rw [hc_and1, e, BitVec.getLsbD_sshiftRight]
    simp [hi]
  cases hb : x.toBitVec.getLsbD i with
  | true => exact decide_eq_true (e2.mpr hb)
  | false => exact decide_eq_false (fun z => by rw [e2.mp z] at hb; cases hb)
theorem hc_has_and (x y : Int32) (i : Nat) (hi : i < 32) : hm_has (x &&& y) (nI i) = (hm_has x (nI i) && hm_has y (nI i)) := by
  rw [hc_has_bv _ i hi, hc_has_bv _ i hi, hc_has_bv _ i hi]
  exact BitVec.getLsbD_and
theorem hc_has_or (x y : Int32) (i : Nat) (hi : i < 32) : hm_has (x ||| y) (nI i) = (hm_has x (nI i) || hm_has y (nI i)) := by
  rw [hc_has_bv _ i hi, hc_has_bv _ i hi, hc_has_bv _ i hi]
  exact BitVec.getLsbD_or
theorem hc_has_not (x : Int32) (i : Nat) (hi : i < 32) : hm_has (x ^^^ (-1)) (nI i) = !hm_has x (nI i) := by
  rw [hc_has_bv _ i hi, hc_has_bv _ i hi]
  have e : (x ^^^ (-1)).toBitVec = x.toBitVec ^^^ BitVec.allOnes 32 := by
    show x.toBitVec ^^^ (-1 : Int32).toBitVec = _
    rw [show (-1 : Int32).toBitVec = BitVec.allOnes 32 by decide +kernel]
  rw [e, BitVec.getLsbD_xor, BitVec.getLsbD_allOnes]
  simp [hi]
theorem hc_has_one : ∀ a b : Fin 32, hm_has (nI 1 <<< (nI a.val &&& 31)) (nI b.val) = decide (b.val = a.val) := by decide +kernel
theorem hc_has_1 (a b : Nat) (ha : a < 32) (hb : b < 32) : hm_has (nI 1 <<< (nI a &&& 31)) (nI b) = decide (b = a) := hc_has_one ⟨a, ha⟩ ⟨b, hb⟩
theorem hc_has_0 : ∀ b : Fin 32, hm_has (nI 0) (nI b.val) = false := by decide +kernel
theorem hc_ext {x y : Int32} (h : ∀ i, i < 32 → hm_has x (nI i) = hm_has y (nI i)) : x = y := by
  apply Int32.toBitVec_inj.mp
  apply BitVec.eq_of_getLsbD_eq
  intro i hi
  rw [← hc_has_bv x i hi, ← hc_has_bv y i hi]
  exact h i hi
/-- no bit beyond the twelve -/
def hc_m (x : Int32) : Prop := ∀ i, 12 ≤ i → i < 32 → hm_has x (nI i) = false
def hc_pc (x : Int32) : Nat := hm_cnt (fun i => hm_has x (nI i)) 12
theorem hc_m_nat {x : Int32} (h : hc_m x) : ∃ u, u < 4096 ∧ x = nI u := by
  refine ⟨x.toBitVec.toNat, ?_, ?_⟩
  · apply Nat.lt_pow_two_of_testBit (n := 12)
    intro i hi
    by_cases h2 : i < 32
    · have e := h i hi h2
      rw [hc_has_bv x i h2] at e
      exact e
    · exact Nat.testBit_lt_two_pow (Nat.lt_of_lt_of_le x.toBitVec.isLt (Nat.pow_le_pow_right (by decide) (by omega)))
  · apply Int32.toBitVec_inj.mp
    show x.toBitVec = BitVec.ofNat 32 x.toBitVec.toNat
    rw [BitVec.ofNat_toNat, BitVec.setWidth_eq]
theorem hc_m_of (u : Nat) (h : u < 4096) : hc_m (nI u) := by
  intro i h1 h2
  rw [hc_has_bv _ i h2]
  show (BitVec.ofNat 32 u).getLsbD i = false
  rw [BitVec.getLsbD_ofNat]
  rw [Nat.testBit_lt_two_pow (show u < 2 ^ i from Nat.lt_of_lt_of_le (show u < 2 ^ 12 from h) (Nat.pow_le_pow_right (by decide) h1)), Bool.and_false]
theorem hc_m_and {x y : Int32} (h : hc_m x) : hc_m (x &&& y) := fun i h1 h2 => by rw [hc_has_and _ _ i h2, h i h1 h2]; rfl
theorem hc_m_or {x y : Int32} (h : hc_m x) (g : hc_m y) : hc_m (x ||| y) := fun i h1 h2 => by rw [hc_has_or _ _ i h2, h i h1 h2, g i h1 h2]; rfl
theorem hc_m_1 {a : Nat} (ha : a < 12) : hc_m (nI 1 <<< (nI a &&& 31)) := fun i h1 h2 => by rw [hc_has_1 a i (by omega) h2]; exact decide_eq_false (by omega)
def hc_bc (x : Int32) : Int32 :=
  let a := x - ((x.toUInt32 >>> (Int32.toUInt32 (nI 1) &&& Int32.toUInt32 31)).toInt32 &&& 1431655765)
  let b := (a &&& 858993459) + ((a.toUInt32 >>> (Int32.toUInt32 (nI 2) &&& Int32.toUInt32 31)).toInt32 &&& 858993459)
  let c := (b + (b.toUInt32 >>> (Int32.toUInt32 (nI 4) &&& Int32.toUInt32 31)).toInt32) &&& 252645135
  let e := c + (c.toUInt32 >>> (Int32.toUInt32 (nI 8) &&& Int32.toUInt32 31)).toInt32
  let f := e + (e.toUInt32 >>> (Int32.toUInt32 (nI 16) &&& Int32.toUInt32 31)).toInt32
  f &&& nI 63
set_option maxRecDepth 100000 in
theorem hc_bc_ok : ∀ u : Fin 4096, hc_bc (nI u.val) = nI (hc_pc (nI u.val)) := by decide +kernel
theorem hc_bc_pc {x : Int32} (h : hc_m x) : hc_bc x = nI (hc_pc x) := by
  obtain ⟨u, hu, rfl⟩ := hc_m_nat h
  exact hc_bc_ok ⟨u, hu⟩
