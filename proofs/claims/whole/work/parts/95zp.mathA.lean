/-! THE TWO SIDES AGAINST EACH OTHER: a case's hindrances -/
theorem hm_all_iff {P : Nat → Bool} : ∀ (j i : Nat), hm_all P j i = true ↔ ∀ x, i ≤ x → x < i + j → P x = true := by
  intro j
  induction j with
  | zero => intro i; exact ⟨fun _ x h1 h2 => by omega, fun _ => rfl⟩
  | succ j ih =>
    intro i
    show (P i && hm_all P j (i + 1)) = true ↔ _
    rw [Bool.and_eq_true, ih (i + 1)]
    constructor
    · rintro ⟨h1, h2⟩ x h3 h4
      by_cases hx : x = i
      · rw [hx]; exact h1
      · exact h2 x (by omega) (by omega)
    · intro h
      exact ⟨h i (by omega) (by omega), fun x h1 h2 => h x (by omega) (by omega)⟩
theorem hm_any_iff {P : Nat → Bool} : ∀ n, hm_any P n = true ↔ ∃ x, x < n ∧ P x = true := by
  intro n
  induction n with
  | zero => exact ⟨fun h => Bool.noConfusion (show false = true from h), fun ⟨x, h, _⟩ => absurd h (by omega)⟩
  | succ n ih =>
    show (hm_any P n || P n) = true ↔ _
    rw [Bool.or_eq_true, ih]
    constructor
    · rintro (⟨x, h1, h2⟩ | h)
      · exact ⟨x, by omega, h2⟩
      · exact ⟨n, by omega, h⟩
    · rintro ⟨x, h1, h2⟩
      by_cases hx : x = n
      · rw [hx] at h2; exact Or.inr h2
      · exact Or.inl ⟨x, by omega, h2⟩
theorem hm_anyall {P P2 : Nat → Bool} {n : Nat} (h : ∀ x, x < n → P x = !P2 x) : hm_bi (hm_any P n) = 0 ↔ hm_all P2 n 0 = true := by
  rw [hm_all_iff]
  constructor
  · intro h1 x _ h3
    have h4 := hm_bi0 h1
    cases h5 : P2 x with
    | true => rfl
    | false =>
      have h6 : P x = true := by rw [h x (by omega), h5]; rfl
      rw [(hm_any_iff n).mpr ⟨x, by omega, h6⟩] at h4
      cases h4
  · intro h1
    cases h2 : hm_any P n with
    | false => rfl
    | true =>
      obtain ⟨x, h3, h4⟩ := (hm_any_iff n).mp h2
      rw [h x h3, h1 x (by omega) (by omega)] at h4
      cases h4
theorem hm_hv_neg {x : Int32} (h : hm_hv x) : x < 0 ↔ x = -1 := by
  rcases h with rfl | ⟨hh, h1, rfl⟩
  · exact ⟨fun _ => rfl, fun _ => by decide⟩
  · exact ⟨fun z => absurd z (nI_pos (by omega)), fun z => absurd z (hm_nIm hh (by omega))⟩
theorem hm_hv_dec {x : Int32} (h : hm_hv x) : decide (¬ x < 0) = !decide (x = -1) := by
  by_cases hz : x = -1
  · rw [decide_eq_true hz, show decide (¬ x < 0) = false from decide_eq_false (fun y => y ((hm_hv_neg h).mpr hz))]; rfl
  · rw [decide_eq_false hz, show decide (¬ x < 0) = true from decide_eq_true (fun y => hz ((hm_hv_neg h).mp y))]; rfl
/-- a bound that a law sets, or none -/
def hm_bv (x : Int32) : Prop := x = -1 ∨ ∃ v, v < 1000 ∧ x = nI v
theorem hm_bv_neg {x : Int32} (h : hm_bv x) : x < 0 ↔ x = -1 := by
  rcases h with rfl | ⟨hh, h1, rfl⟩
  · exact ⟨fun _ => rfl, fun _ => by decide⟩
  · exact ⟨fun z => absurd z (nI_pos (by omega)), fun z => absurd z (hm_nIm hh (by omega))⟩
def hx_H (k m : hm_M) (nc : Nat) : Prop := ∀ c, c < nc → ∀ t, t < 4 → k (100 + 2 * c) t = m 15 (4 * c + t)
def hx_P (k m : hm_M) (nc : Nat) : Prop := ∀ c, c < nc → ∀ i, i < 6 → k (101 + 2 * c) i = m 14 (6 * c + i)
def hx_L (k : hm_M) (ad : hm_AD) (m : hm_M) : Prop := ∀ f, f < 4 → ∀ t, t < 4 → ∀ i, i < 5 → k (60 + 4 * ad 0 f + t) i = m 4 (20 * f + 5 * t + i)
theorem hx_wb {a b : Int32} {x : Nat} (ha : hm_bv a) (hb : hm_bv b) (hx : x < 1000) : hm_wb a b (nI x) = true ↔ hm_out (nI x) a b = 0 := by
  unfold hm_wb hm_out
  rw [decide_eq_true_iff]
  have e1 : (b = -1 ∨ b ≤ nI x) ↔ b ≤ nI x := by
    constructor
    · rintro (rfl | h)
      · exact Int32.le_iff_toInt_le.mpr (by rw [nI_toInt (by omega), show (-1 : Int32).toInt = -1 by decide +kernel]; omega)
      · exact h
    · exact Or.inr
  rw [e1]
  by_cases h1 : a < 0
  · rw [if_pos h1]
    by_cases h2 : b ≤ nI x
    · rw [if_pos h2]
      exact ⟨fun _ => rfl, fun _ => ⟨Or.inl ((hm_bv_neg ha).mp h1), h2⟩⟩
    · rw [if_neg h2]
      exact ⟨fun z => absurd z.2 h2, fun z => absurd z (by decide)⟩
  · rw [if_neg h1]
    have h3 : ¬ a = -1 := fun z => h1 ((hm_bv_neg ha).mpr z)
    by_cases h4 : a < nI x
    · rw [if_pos h4]
      exact ⟨fun z => z.1.elim (fun y => absurd y h3) (fun y => absurd h4 (Int32.not_lt.mpr y)), fun z => absurd z (by decide)⟩
    · rw [if_neg h4]
      by_cases h2 : b ≤ nI x
      · rw [if_pos h2]
        exact ⟨fun _ => rfl, fun _ => ⟨Or.inr (Int32.not_lt.mp h4), h2⟩⟩
      · rw [if_neg h2]
        exact ⟨fun z => absurd z.2 h2, fun z => absurd z (by decide)⟩
theorem hx_hbl {k m : hm_M} {ad : hm_AD} {nc c t f hh d0 : Nat} (hc : c < nc) (ht : t < 4) (hf : f < 4) (hH : hx_H k m nc) (hP : hx_P k m nc) (hL : hx_L k ad m) (h11 : k 11 c = m 11 c) (hd : m 11 c = nI d0) (hd4 : d0 < 400) (hh4 : hh < 400) (hb1 : hm_bv (m 4 (20 * f + 5 * t + 1))) (hb2 : hm_bv (m 4 (20 * f + 5 * t + 2))) (hpv : ∀ i, i < 6 → hm_hv (m 14 (6 * c + i))) (hhv : ∀ t, t < 4 → hm_hv (m 15 (4 * c + t))) : hm_hbl k c (ad 0 f) t (nI hh) = hm_hin m f c t (nI hh) := by
  have hl : ∀ i, i < 5 → k (60 + 4 * ad 0 f + t) i = m 4 (20 * f + 5 * t + i) := hL f hf t ht
  unfold hm_hbl hm_hin
  rw [h11, hl 3 (by decide), hl 0 (by decide), hl 1 (by decide), hl 2 (by decide), hl 4 (by decide)]
  by_cases c1 : m 11 c < nI hh
  rotate_left
  · rw [if_neg c1, if_neg c1]
  rw [if_pos c1, if_pos c1]
  by_cases c2 : m 4 (20 * f + 5 * t + 3) = nI 1
  · rw [if_pos c2, if_neg (fun z => z c2)]
  rw [if_neg c2, if_pos c2]
  have e4 := hm_anyall (n := 6) (P := fun j => decide (m 4 (20 * f + 5 * t + 0) >>> (nI j &&& 31) &&& nI 1 = nI 1) && !(decide (¬ m 14 (6 * c + j) < 0) && decide (¬ nI hh < m 14 (6 * c + j)))) (P2 := hm_ppk (k (101 + 2 * c)) (m 4 (20 * f + 5 * t + 0)) (nI hh)) (fun x hx => by
    unfold hm_ppk
    rw [hP c hc x hx]
    have e1 : decide (¬ m 14 (6 * c + x) < 0) = !decide (m 14 (6 * c + x) = -1) := hm_hv_dec (hpv x hx)
    have e2 : decide (¬ nI hh < m 14 (6 * c + x)) = decide (m 14 (6 * c + x) ≤ nI hh) := decide_eq_decide.mpr Int32.not_lt
    rw [e1, e2, show decide (m 4 (20 * f + 5 * t + 0) >>> (nI x &&& 31) &&& nI 1 = nI 1) = hm_has (m 4 (20 * f + 5 * t + 0)) (nI x) from rfl]
    cases hm_has (m 4 (20 * f + 5 * t + 0)) (nI x) <;> cases decide (m 14 (6 * c + x) = -1) <;> cases decide (m 14 (6 * c + x) ≤ nI hh) <;> rfl)
  by_cases c4 : hm_all (hm_ppk (k (101 + 2 * c)) (m 4 (20 * f + 5 * t + 0)) (nI hh)) 6 0 = true
  rotate_left
  · rw [if_neg c4, if_neg (fun z => c4 (e4.mp z))]
  rw [if_pos c4, if_pos (e4.mpr c4)]
  have hlt : d0 < hh := by
    rw [hd] at c1
    exact (nI_ltI (by omega) (by omega)).mp c1
  have esub : nI hh - m 11 c = nI (hh - d0) := by rw [hd]; exact hm_nIsub (by omega)
  have e5 := hx_wb hb1 hb2 (x := hh - d0) (by omega)
  rw [esub]
  by_cases c5 : hm_wb (m 4 (20 * f + 5 * t + 1)) (m 4 (20 * f + 5 * t + 2)) (nI (hh - d0)) = true
  rotate_left
  · rw [if_neg c5, if_neg (fun z => c5 (e5.mpr z))]
  rw [if_pos c5, if_pos (e5.mp c5)]
  have e6 := hm_anyall (n := 4) (P := fun j => decide (m 4 (20 * f + 5 * t + 4) >>> (nI j &&& 31) &&& nI 1 = nI 1) && !(decide (¬ m 15 (4 * c + j) < 0) && decide (¬ nI hh ≤ m 15 (4 * c + j)))) (P2 := hm_stk (k (100 + 2 * c)) (m 4 (20 * f + 5 * t + 4)) (nI hh)) (fun x hx => by
    unfold hm_stk
    rw [hH c hc x hx]
    have e1 : decide (¬ m 15 (4 * c + x) < 0) = !decide (m 15 (4 * c + x) = -1) := hm_hv_dec (hhv x hx)
    have e2 : decide (¬ nI hh ≤ m 15 (4 * c + x)) = decide (m 15 (4 * c + x) < nI hh) := decide_eq_decide.mpr Int32.not_le
    rw [e1, e2, show decide (m 4 (20 * f + 5 * t + 4) >>> (nI x &&& 31) &&& nI 1 = nI 1) = hm_has (m 4 (20 * f + 5 * t + 4)) (nI x) from rfl]
    cases hm_has (m 4 (20 * f + 5 * t + 4)) (nI x) <;> cases decide (m 15 (4 * c + x) = -1) <;> cases decide (m 15 (4 * c + x) < nI hh) <;> rfl)
  by_cases c6 : hm_all (hm_stk (k (100 + 2 * c)) (m 4 (20 * f + 5 * t + 4)) (nI hh)) 4 0 = true
  · rw [if_pos c6, if_pos (e6.mpr c6)]
  · rw [if_neg c6, if_neg (fun z => c6 (e6.mp z))]
theorem hx_hbo {k m : hm_M} {ad : hm_AD} {nc c t f hh : Nat} (hc : c < nc) (ht : t < 4) (hf : f < 4) (hmf : m 10 c = nI f) (hH : hx_H k m nc) (hL : hx_L k ad m) (hh4 : hh < 400) (hhv : ∀ t, t < 4 → hm_hv (m 15 (4 * c + t))) (hno : m 15 (4 * c + t) = -1) : hm_hbo k c (ad 0 f) t (nI hh) = (if hm_wl m c t (nI hh) = true then nI 7 else if hm_oe m c t = true then nI 8 else if hm_bz m c (nI hh) = true then nI 9 else nI 0) := by
  have e1 : hm_wl m c t (nI hh) = !hm_all (hm_ctl k c (ad 0 f) (nI t) (nI hh)) 4 0 := by
    have e := hm_anyall (n := 4) (P := fun j => decide (¬ m 15 (4 * c + j) < 0) && (decide (¬ nI hh < m 15 (4 * c + j)) && decide (m 4 (20 * (m 10 c).toNatClampNeg + 5 * j + 4) >>> (nI t &&& 31) &&& nI 1 = nI 1))) (P2 := hm_ctl k c (ad 0 f) (nI t) (nI hh)) (fun x hx => by
      unfold hm_ctl
      rw [hH c hc x hx, hL f hf x hx 4 (by decide), hmf, nI_clamp (by omega)]
      have e1 : decide (¬ m 15 (4 * c + x) < 0) = !decide (m 15 (4 * c + x) = -1) := hm_hv_dec (hhv x hx)
      have e2 : decide (¬ nI hh < m 15 (4 * c + x)) = decide (m 15 (4 * c + x) ≤ nI hh) := decide_eq_decide.mpr Int32.not_lt
      rw [e1, e2, show decide (m 4 (20 * f + 5 * x + 4) >>> (nI t &&& 31) &&& nI 1 = nI 1) = hm_has (m 4 (20 * f + 5 * x + 4)) (nI t) from rfl]
      cases hm_has (m 4 (20 * f + 5 * x + 4)) (nI t) <;> cases decide (m 15 (4 * c + x) = -1) <;> cases decide (m 15 (4 * c + x) ≤ nI hh) <;> rfl)
    unfold hm_wl
    cases h1 : hm_all (hm_ctl k c (ad 0 f) (nI t) (nI hh)) 4 0 with
    | true => exact hm_bi0 (e.mpr h1)
    | false =>
      refine hm_bi1 (fun z => ?_)
      rw [e.mp z] at h1
      cases h1
  have e3 : hm_bz m c (nI hh) = !hm_all (hm_hos (k (100 + 2 * c)) t (nI hh)) 4 0 := by
    have hne : ¬ m 15 (4 * c + t) = nI hh := by rw [hno]; exact fun z => hm_nIm hh (by omega) z.symm
    have e := hm_anyall (n := 4) (P := fun j => decide (m 15 (4 * c + j) = nI hh)) (P2 := hm_hos (k (100 + 2 * c)) t (nI hh)) (fun x hx => by
      unfold hm_hos
      rw [hH c hc x hx]
      by_cases hxt : x = t
      · rw [decide_eq_true hxt, hxt, decide_eq_false hne]; rfl
      · rw [decide_eq_false hxt, Bool.false_or, Bool.not_not])
    unfold hm_bz
    cases h1 : hm_all (hm_hos (k (100 + 2 * c)) t (nI hh)) 4 0 with
    | true => exact hm_bi0 (e.mpr h1)
    | false =>
      refine hm_bi1 (fun z => ?_)
      rw [e.mp z] at h1
      cases h1
  have e2 : hm_oe m c t = true ↔ ((t = 2 ∧ ¬ k (100 + 2 * c) 3 = -1) ∨ (t = 3 ∧ ¬ k (100 + 2 * c) 2 = -1)) := by
    have n2 : 0 ≤ m 15 (4 * c + 2) ↔ ¬ m 15 (4 * c + 2) = -1 := by
      rw [← hm_hv_neg (hhv 2 (by decide))]; exact Int32.not_lt.symm
    have n3 : 0 ≤ m 15 (4 * c + 3) ↔ ¬ m 15 (4 * c + 3) = -1 := by
      rw [← hm_hv_neg (hhv 3 (by decide))]; exact Int32.not_lt.symm
    rw [hH c hc 3 (by decide), hH c hc 2 (by decide)]
    have h4 : t = 0 ∨ t = 1 ∨ t = 2 ∨ t = 3 := by omega
    rcases h4 with rfl | rfl | rfl | rfl
    · exact ⟨fun z => Bool.noConfusion (show false = true from z), fun z => z.elim (fun y => absurd y.1 (by decide)) (fun y => absurd y.1 (by decide))⟩
    · exact ⟨fun z => Bool.noConfusion (show false = true from z), fun z => z.elim (fun y => absurd y.1 (by decide)) (fun y => absurd y.1 (by decide))⟩
    · show decide (0 ≤ m 15 (4 * c + 3)) = true ↔ _
      rw [decide_eq_true_iff, n3]
      exact ⟨fun z => Or.inl ⟨rfl, z⟩, fun z => z.elim (fun y => y.2) (fun y => absurd y.1 (by decide))⟩
    · show decide (0 ≤ m 15 (4 * c + 2)) = true ↔ _
      rw [decide_eq_true_iff, n2]
      exact ⟨fun z => Or.inr ⟨rfl, z⟩, fun z => z.elim (fun y => absurd y.1 (by decide)) (fun y => y.2)⟩
  unfold hm_hbo
  rw [e1, e3]
  cases h1 : hm_all (hm_ctl k c (ad 0 f) (nI t) (nI hh)) 4 0 with
  | false => rfl
  | true =>
    rw [if_pos rfl, if_neg (show ¬ (!true) = true by decide)]
    by_cases h2 : (t = 2 ∧ ¬ k (100 + 2 * c) 3 = -1) ∨ (t = 3 ∧ ¬ k (100 + 2 * c) 2 = -1)
    · rw [if_pos h2, if_pos (e2.mpr h2)]
    · rw [if_neg h2, if_neg (fun z => h2 (e2.mp z))]
      cases hm_all (hm_hos (k (100 + 2 * c)) t (nI hh)) 4 0 <;> rfl
