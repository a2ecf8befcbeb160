/-! A ROW IS GOOD ON BOTH SIDES ALIKE -/
theorem hx_en_lt {mn nb : Nat} : ∀ (r l : Nat) (f g : Nat → Nat), g ∈ hx_en mn nb l r f → l ≤ mn → r ≤ nb → (∀ j, j < mn - l → f j < nb) → ∀ j, j < mn → g j < nb := by
  intro r
  induction r with
  | zero =>
    intro l f g hg _ _ hf j hj
    cases l with
    | zero =>
      have e : hx_en mn nb 0 0 f = [f] := by unfold hx_en; rfl
      rw [e] at hg
      rw [List.mem_singleton.mp hg]
      exact hf j (by omega)
    | succ l =>
      have e : hx_en mn nb (l + 1) 0 f = [] := by unfold hx_en; rfl
      rw [e] at hg
      cases hg
  | succ r ih =>
    intro l f g hg hl hr hf j hj
    cases l with
    | zero =>
      have e : hx_en mn nb 0 (r + 1) f = [f] := by unfold hx_en; rfl
      rw [e] at hg
      rw [List.mem_singleton.mp hg]
      exact hf j (by omega)
    | succ l =>
      rw [hx_en] at hg
      rcases List.mem_append.mp hg with h1 | h1
      · refine ih l _ g h1 (by omega) (by omega) (fun i hi => ?_) j hj
        by_cases hia : i = mn - (l + 1)
        · rw [show hx_fs f (mn - (l + 1)) (nb - (r + 1)) i = nb - (r + 1) from if_pos hia]
          omega
        · rw [show hx_fs f (mn - (l + 1)) (nb - (r + 1)) i = f i from if_neg hia]
          exact hf i (by omega)
      · exact ih (l + 1) f g h1 hl (by omega) hf j hj
theorem hx_en_lt' {mn nb : Nat} {g : Nat → Nat} (hg : g ∈ hx_en mn nb mn nb hx_id) : ∀ j, j < mn → g j < nb := hx_en_lt nb mn hx_id g hg (Nat.le_refl _) (Nat.le_refl _) (fun j hj => absurd hj (by omega))
theorem hx_l1_st {ht : Nat → Int32} {f : Nat → Nat} : ∀ (k j : Nat) (lo hi : Int32), (hm_l1 ht f k j lo hi (hx_st f j)).2.2 = hx_st f (j + k) := by
  intro k
  induction k with
  | zero => intro j lo hi; rfl
  | succ k ih =>
    intro j lo hi
    have e := ih (j + 1) (if lo ≤ ht (f j) then lo else ht (f j)) (if ht (f j) ≤ hi then hi else ht (f j))
    rw [show j + 1 + k = j + (k + 1) by omega] at e
    exact e
def hx_mm (h : Nat → Nat) (f : Nat → Nat) : Nat → Nat → Nat → Nat → Nat × Nat
  | 0, _, lo, hi => (lo, hi)
  | k + 1, j, lo, hi => hx_mm h f k (j + 1) (if lo ≤ h (f j) then lo else h (f j)) (if h (f j) ≤ hi then hi else h (f j))
theorem hx_leI {a b : Nat} (ha : a < 2 ^ 31) (hb : b < 2 ^ 31) : nI a ≤ nI b ↔ a ≤ b := by
  rw [Int32.le_iff_toInt_le, nI_toInt ha, nI_toInt hb]
  omega
theorem hx_l1_mm {ht : Nat → Int32} {h f : Nat → Nat} : ∀ (k j lo hi : Nat) (st : Int32), lo < 1000 → hi < 1000 → (∀ i, j ≤ i → i < j + k → ht (f i) = nI (h (f i)) ∧ h (f i) < 1000) → (hm_l1 ht f k j (nI lo) (nI hi) st).1 = nI (hx_mm h f k j lo hi).1 ∧ (hm_l1 ht f k j (nI lo) (nI hi) st).2.1 = nI (hx_mm h f k j lo hi).2 ∧ (hx_mm h f k j lo hi).1 < 1000 ∧ (hx_mm h f k j lo hi).2 < 1000 := by
  intro k
  induction k with
  | zero => intro j lo hi st h1 h2 _; exact ⟨rfl, rfl, h1, h2⟩
  | succ k ih =>
    intro j lo hi st h1 h2 hh
    obtain ⟨e1, e2⟩ := hh j (by omega) (by omega)
    have e3 : (if nI lo ≤ ht (f j) then nI lo else ht (f j)) = nI (if lo ≤ h (f j) then lo else h (f j)) := by
      rw [e1]
      by_cases hc : lo ≤ h (f j)
      · rw [if_pos hc, if_pos ((hx_leI (by omega) (by omega)).mpr hc)]
      · rw [if_neg hc, if_neg (fun z => hc ((hx_leI (by omega) (by omega)).mp z))]
    have e4 : (if ht (f j) ≤ nI hi then nI hi else ht (f j)) = nI (if h (f j) ≤ hi then hi else h (f j)) := by
      rw [e1]
      by_cases hc : h (f j) ≤ hi
      · rw [if_pos hc, if_pos ((hx_leI (by omega) (by omega)).mpr hc)]
      · rw [if_neg hc, if_neg (fun z => hc ((hx_leI (by omega) (by omega)).mp z))]
    unfold hm_l1 hx_mm
    rw [e3, e4]
    exact ih (j + 1) _ _ _ (by split <;> omega) (by split <;> omega) (fun i h3 h4 => hh i (by omega) (by omega))
/-- how far apart they are at most -/
theorem hx_mm_sp {h f : Nat → Nat} : ∀ (k j lo hi s0 : Nat), (hx_mm h f k j lo hi).2 ≤ (hx_mm h f k j lo hi).1 + s0 ↔ (hi ≤ lo + s0 ∧ (∀ i, j ≤ i → i < j + k → h (f i) ≤ lo + s0 ∧ hi ≤ h (f i) + s0) ∧ ∀ i i2, j ≤ i → i < j + k → j ≤ i2 → i2 < j + k → h (f i) ≤ h (f i2) + s0) := by
  intro k
  induction k with
  | zero =>
    intro j lo hi s0
    exact ⟨fun z => ⟨z, fun i _ _ => by omega, fun i _ _ _ _ _ => by omega⟩, fun z => z.1⟩
  | succ k ih =>
    intro j lo hi s0
    unfold hx_mm
    rw [ih]
    constructor
    · rintro ⟨a1, a2, a3⟩
      refine ⟨?_, fun i h1 h2 => ?_, fun i i2 h1 h2 h3 h4 => ?_⟩
      · split at a1 <;> split at a1 <;> omega
      · by_cases hij : i = j
        · subst hij
          split at a1 <;> split at a1 <;> omega
        · have := a2 i (by omega) (by omega)
          split at this <;> split at this <;> omega
      · by_cases hij : i = j
        · by_cases hij2 : i2 = j
          · rw [hij, hij2]; omega
          · have := a2 i2 (by omega) (by omega)
            rw [hij]
            split at this <;> split at this <;> omega
        · by_cases hij2 : i2 = j
          · have := a2 i (by omega) (by omega)
            rw [hij2]
            split at this <;> split at this <;> omega
          · exact a3 i i2 (by omega) (by omega) (by omega) (by omega)
    · rintro ⟨a1, a2, a3⟩
      have b := a2 j (by omega) (by omega)
      refine ⟨?_, fun i h1 h2 => ?_, fun i i2 h1 h2 h3 h4 => a3 i i2 (by omega) (by omega) (by omega) (by omega)⟩
      · split <;> split <;> omega
      · have c := a2 i (by omega) (by omega)
        have d1 := a3 i j (by omega) (by omega) (by omega) (by omega)
        have d2 := a3 j i (by omega) (by omega) (by omega) (by omega)
        split <;> split <;> omega
theorem hx_negd : ∀ d : Fin 1000, 0 < d.val → ¬ (0 : Int32) ≤ -(nI d.val) := by decide +kernel
theorem hx_abs {x y s0 : Nat} (hx : x < 1000) (hy : y < 1000) (hs : s0 < 1000) : hc_abs (nI x - nI y) ≤ nI s0 ↔ (x ≤ y + s0 ∧ y ≤ x + s0) := by
  unfold hc_abs
  rcases Nat.lt_or_ge x y with h | h
  · have e : nI x - nI y = -(nI (y - x)) := by
      rw [← hm_nIsub (show x + (y - x) = y by omega), Int32.neg_sub]
    rw [e, if_neg (hx_negd ⟨y - x, by omega⟩ (show 0 < y - x by omega)), Int32.neg_neg, hx_leI (by omega) (by omega)]
    omega
  · rw [hm_nIsub (show y + (x - y) = x by omega), if_pos (nI_pos' (by omega)), hx_leI (by omega) (by omega)]
    omega
theorem hx_has_st {f : Nat → Nat} {i : Nat} (hi : i < 32) : ∀ n, (∀ j, j < n → f j < 32) → (hm_has (hx_st f n) (nI i) = true ↔ ∃ j, j < n ∧ f j = i) := by
  intro n
  induction n with
  | zero =>
    intro _
    rw [show hx_st f 0 = nI 0 from rfl, hc_has_0 ⟨i, hi⟩]
    exact ⟨fun z => (by cases z), fun ⟨j, h, _⟩ => absurd h (by omega)⟩
  | succ n ih =>
    intro hf
    rw [show hx_st f (n + 1) = hx_st f n ||| nI 1 <<< (nI (f n) &&& 31) from rfl, hc_has_or _ _ i hi, Bool.or_eq_true, ih (fun j hj => hf j (by omega)), hc_has_1 (f n) i (hf n (by omega)) hi, decide_eq_true_iff]
    constructor
    · rintro (⟨j, h1, h2⟩ | h1)
      · exact ⟨j, by omega, h2⟩
      · exact ⟨n, by omega, h1.symm⟩
    · rintro ⟨j, h1, h2⟩
      by_cases hj : j = n
      · exact Or.inr (by rw [← h2, hj])
      · exact Or.inl ⟨j, by omega, h2⟩
theorem hx_disj {x y : Int32} : x &&& y = 0 ↔ ∀ i, i < 32 → hm_has x (nI i) = true → hm_has y (nI i) = false := by
  constructor
  · intro h i hi hx
    have e : hm_has (x &&& y) (nI i) = false := by rw [h]; exact hc_has_0 ⟨i, hi⟩
    rw [hc_has_and _ _ i hi, hx, Bool.true_and] at e
    exact e
  · intro h
    refine hc_ext (y := 0) (fun i hi => ?_)
    rw [hc_has_and _ _ i hi, show hm_has 0 (nI i) = false from hc_has_0 ⟨i, hi⟩]
    cases hx : hm_has x (nI i) with
    | false => rfl
    | true => rw [h i hi hx]; rfl
theorem hx_okb_iff {ht : Nat → Int32} {sp pres : Int32} {f : Nat → Nat} : ∀ n, hx_okb ht sp pres f n = true ↔ ((∀ j, j < n → hm_has pres (nI (f j)) = true) ∧ ∀ i j, i < j → j < n → hc_abs (ht (f j) - ht (f i)) ≤ sp) := by
  intro n
  induction n with
  | zero => exact ⟨fun _ => ⟨fun j h => absurd h (by omega), fun i j _ h => absurd h (by omega)⟩, fun _ => rfl⟩
  | succ n ih =>
    show (hx_okb ht sp pres f n && (hm_has pres (nI (f n)) && hm_all (fun j => decide (hc_abs (ht (f n) - ht (f j)) ≤ sp)) n 0)) = true ↔ _
    rw [Bool.and_eq_true, Bool.and_eq_true, ih, hm_all_iff]
    constructor
    · rintro ⟨⟨a1, a2⟩, a3, a4⟩
      refine ⟨fun j hj => ?_, fun i j hij hj => ?_⟩
      · by_cases h : j = n
        · rw [h]; exact a3
        · exact a1 j (by omega)
      · by_cases h : j = n
        · rw [h]; exact of_decide_eq_true (a4 i (by omega) (by omega))
        · exact a2 i j hij (by omega)
    · rintro ⟨a1, a2⟩
      exact ⟨⟨fun j hj => a1 j (by omega), fun i j hij hj => a2 i j hij (by omega)⟩, a1 n (by omega), fun i _ hi => decide_eq_true (a2 i n (by omega) (by omega))⟩
theorem hx_qp {ht : Nat → Int32} {sp pres aw : Int32} {h f : Nat → Nat} {mn nb s0 : Nat} (hnb : nb ≤ 12) (hsp : sp = nI s0) (hs0 : s0 < 1000) (hht : ∀ i, i < nb → ht i = nI (h i) ∧ 0 < h i ∧ h i < 999) (hf : ∀ j, j < mn → f j < nb) (hpr : ∀ i, i < nb → hm_has pres (nI i) = !hm_has aw (nI i)) : hx_q ht sp pres mn f = (hx_p ht sp mn f).filter (fun x => decide (x &&& aw = 0)) := by
  have hst : (hm_l1 ht f mn 0 (nI 999) (nI 0) (nI 0)).2.2 = hx_st f mn := by
    have e := hx_l1_st (ht := ht) (f := f) mn 0 (nI 999) (nI 0)
    rw [Nat.zero_add] at e
    exact e
  obtain ⟨m1, m2, m3, m4⟩ := hx_l1_mm (ht := ht) (h := h) (f := f) mn 0 999 0 (nI 0) (by decide) (by decide) (fun i _ h2 => by
    have := hht (f i) (hf i (by omega))
    exact ⟨this.1, by omega⟩)
  have hsp2 : (sp < (hm_l1 ht f mn 0 (nI 999) (nI 0) (nI 0)).2.1 - (hm_l1 ht f mn 0 (nI 999) (nI 0) (nI 0)).1) ↔ ¬ (hx_mm h f mn 0 999 0).2 ≤ (hx_mm h f mn 0 999 0).1 + s0 := by
    rw [m1, m2, hsp]
    rcases Nat.lt_or_ge (hx_mm h f mn 0 999 0).2 (hx_mm h f mn 0 999 0).1 with hl | hl
    · have e : nI (hx_mm h f mn 0 999 0).2 - nI (hx_mm h f mn 0 999 0).1 = -(nI ((hx_mm h f mn 0 999 0).1 - (hx_mm h f mn 0 999 0).2)) := by
        rw [← hm_nIsub (show (hx_mm h f mn 0 999 0).2 + ((hx_mm h f mn 0 999 0).1 - (hx_mm h f mn 0 999 0).2) = (hx_mm h f mn 0 999 0).1 by omega), Int32.neg_sub]
      rw [e]
      have hneg := hx_negd ⟨(hx_mm h f mn 0 999 0).1 - (hx_mm h f mn 0 999 0).2, by omega⟩ (show 0 < (hx_mm h f mn 0 999 0).1 - (hx_mm h f mn 0 999 0).2 by omega)
      constructor
      · intro z
        exact absurd (Int32.le_trans (nI_pos' (by omega)) (Int32.le_of_lt z)) hneg
      · intro z
        omega
    · rw [hm_nIsub (show (hx_mm h f mn 0 999 0).1 + ((hx_mm h f mn 0 999 0).2 - (hx_mm h f mn 0 999 0).1) = (hx_mm h f mn 0 999 0).2 by omega), nI_ltI (by omega) (by omega)]
      omega
  have hok : hx_okb ht sp pres f mn = true ↔ ((hx_mm h f mn 0 999 0).2 ≤ (hx_mm h f mn 0 999 0).1 + s0 ∧ hx_st f mn &&& aw = 0) := by
    rw [hx_okb_iff, hx_mm_sp, hx_disj]
    constructor
    · rintro ⟨a1, a2⟩
      refine ⟨⟨by omega, fun i _ h2 => ?_, fun i i2 _ h2 _ h4 => ?_⟩, fun i hi hx => ?_⟩
      · have := hht (f i) (hf i (by omega))
        omega
      · have b1 := hht (f i) (hf i (by omega))
        have b2 := hht (f i2) (hf i2 (by omega))
        rcases Nat.lt_trichotomy i i2 with h5 | h5 | h5
        · have := a2 i i2 h5 (by omega)
          rw [b1.1, b2.1, hsp, hx_abs (by omega) (by omega) hs0] at this
          omega
        · rw [h5]; omega
        · have := a2 i2 i h5 (by omega)
          rw [b1.1, b2.1, hsp, hx_abs (by omega) (by omega) hs0] at this
          omega
      · obtain ⟨j, h1, h2⟩ := (hx_has_st hi mn (fun j hj => by have := hf j hj; omega)).mp hx
        have b := a1 j h1
        rw [hpr (f j) (hf j h1), h2] at b
        cases hc : hm_has aw (nI i) with
        | false => rfl
        | true => rw [hc] at b; cases b
    · rintro ⟨⟨_, a2, a3⟩, a4⟩
      refine ⟨fun j hj => ?_, fun i j hij hj => ?_⟩
      · have b := a4 (f j) (by have := hf j hj; omega) ((hx_has_st (by have := hf j hj; omega) mn (fun j hj => by have := hf j hj; omega)).mpr ⟨j, hj, rfl⟩)
        rw [hpr (f j) (hf j hj), b]
        rfl
      · have b1 := hht (f i) (hf i (by omega))
        have b2 := hht (f j) (hf j (by omega))
        rw [b1.1, b2.1, hsp, hx_abs (by omega) (by omega) hs0]
        have c1 := a3 i j (by omega) (by omega) (by omega) (by omega)
        have c2 := a3 j i (by omega) (by omega) (by omega) (by omega)
        omega
  unfold hx_q hx_p
  rw [hst]
  by_cases h1 : (hx_mm h f mn 0 999 0).2 ≤ (hx_mm h f mn 0 999 0).1 + s0
  · rw [if_neg (fun z => hsp2.mp z h1)]
    by_cases h2 : hx_st f mn &&& aw = 0
    · rw [if_pos (hok.mpr ⟨h1, h2⟩), List.filter_cons, if_pos (decide_eq_true h2)]
      rfl
    · rw [if_neg (fun z => h2 (hok.mp z).2), List.filter_cons, if_neg (fun z => h2 (of_decide_eq_true z))]
      rfl
  · rw [if_pos (hsp2.mpr h1), if_neg (fun z => h1 (hok.mp z).1)]
    rfl
theorem hx_first_fm {β : Type} {g : Int32 → Option β} {P : Int32 → Bool} : ∀ L : List Int32, hx_first g (L.filter P) = hx_first (fun x => if P x = true then g x else none) L := by
  intro L
  induction L with
  | nil => rfl
  | cons x L ih =>
    rw [List.filter_cons]
    show _ = (match (if P x = true then g x else none) with | some p => some p | none => hx_first (fun x => if P x = true then g x else none) L)
    by_cases h : P x = true
    · rw [if_pos h, if_pos h, ← ih]
      rfl
    · rw [if_neg h, if_neg h]
      exact ih
theorem hx_fm_c {α : Type} {p q : α → List Int32} : ∀ L : List α, (∀ a, a ∈ L → p a = q a) → L.flatMap p = L.flatMap q := by
  intro L
  induction L with
  | nil => intro _; rfl
  | cons a L ih =>
    intro h
    rw [List.flatMap_cons, List.flatMap_cons, h a (List.mem_cons_self), ih (fun b hb => h b (List.mem_cons_of_mem _ hb))]
theorem hx_fm_filter {α : Type} {p : α → List Int32} {P : Int32 → Bool} : ∀ L : List α, L.flatMap (fun a => (p a).filter P) = (L.flatMap p).filter P := by
  intro L
  induction L with
  | nil => rfl
  | cons a L ih => rw [List.flatMap_cons, List.flatMap_cons, List.filter_append, ih]
/-- one taker: the class's search is the first of the Model's list -/
theorem hx_one {ht : Nat → Int32} {sp aw : Int32} {h : Nat → Nat} {mn nb s0 : Nat} {fin : Int32 → Option (List Int32)} (hnb : nb ≤ 12) (hsp : sp = nI s0) (hs0 : s0 < 1000) (hht : ∀ i, i < nb → ht i = nI (h i) ∧ 0 < h i ∧ h i < 999) : hc_fl (fun one => hc_lkh ht sp one nb) nb fin mn (nI 0) (hc_pre nb aw) = hx_first (fun x => if x &&& aw = 0 then fin x else none) (hx_LL ht sp mn nb) := by
  have hpr : ∀ i, i < nb → hm_has (hc_pre nb aw) (nI i) = !hm_has aw (nI i) := fun i hi => by
    unfold hc_pre
    rw [hc_has_and _ _ i (by omega), hc_has_not _ i (by omega), hc_full ⟨nb, by omega⟩]
    have e : hm_has (nI (2 ^ nb - 1)) (nI i) = true := by
      rw [hc_has_bv _ i (by omega)]
      show (BitVec.ofNat 32 (2 ^ nb - 1)).getLsbD i = true
      rw [BitVec.getLsbD_ofNat, decide_eq_true (by omega), Bool.true_and, Nat.testBit_two_pow_sub_one]
      exact decide_eq_true hi
    rw [e, Bool.true_and]
  rw [hx_fl (pres := hc_pre nb aw) hnb (fun _ _ => rfl)]
  unfold hx_LL
  rw [hx_fm_c (p := hx_q ht sp (hc_pre nb aw) mn) (q := fun f => (hx_p ht sp mn f).filter (fun x => decide (x &&& aw = 0))) _ (fun f hf => hx_qp hnb hsp hs0 hht (hx_en_lt' hf) hpr), hx_fm_filter, hx_first_fm]
  congr 1
  funext x
  by_cases hx : x &&& aw = 0
  · rw [if_pos hx, if_pos (decide_eq_true hx)]
  · rw [if_neg hx, if_neg (fun z => hx (of_decide_eq_true z))]
