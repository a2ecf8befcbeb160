/-! THE LEDGER'S ROWS -/
def hr_rb (H : Nat → Int32) (j : Nat) : Bool := decide (¬ H 0 = -1 ∧ (H 0).toNatClampNeg ≤ j ∧ j < (hm_ren (H 2) (H 3)).toNatClampNeg)
def hr_b (b : Bool) : Int32 := if b = true then nI 1 else nI 0
theorem hr_ring1 (a b c : Int32) : a + -1 * b + c = a + (c - b) := by grind
theorem hc_er_eq {x : Int32} : ∀ (n i : Nat) (k : hm_M), hc_er x n i k = hm_uM k 43 (fun j => if i ≤ j ∧ j < i + n then k 43 j + x else k 43 j) := by
  intro n
  induction n with
  | zero =>
    intro i k
    show k = _
    funext a
    by_cases ha : a = 43
    · rw [ha, hm_uMe]
      funext j
      rw [if_neg (by omega)]
    · rw [hm_uMo _ _ ha]
  | succ n ih =>
    intro i k
    show hc_er x n (i + 1) (hc_add k 43 i x) = _
    rw [ih]
    funext a
    by_cases ha : a = 43
    · rw [ha, hm_uMe, hm_uMe]
      funext j
      have e : hc_add k 43 i x 43 j = if j = i then k 43 i + x else k 43 j := by
        show hm_uM k 43 (upd (k 43) i (k 43 i + x)) 43 j = _
        rw [hm_uMe]
        rfl
      rw [e]
      by_cases hj : j = i
      · rw [if_neg (by omega), if_pos hj, if_pos (by omega), hj]
      · rw [if_neg hj]
        by_cases h2 : i + 1 ≤ j ∧ j < i + 1 + n
        · rw [if_pos h2, if_pos (by omega)]
        · rw [if_neg h2, if_neg (by omega)]
    · rw [hm_uMo _ _ ha, hm_uMo _ _ ha]
      exact hm_uMo _ _ ha
theorem hc_rm_eq {k : hm_M} {c : Nat} {x : Int32} : hc_rm k c x = hm_uM k 43 (fun j => if hr_rb (k (100 + 2 * c)) j = true then k 43 j + x else k 43 j) := by
  unfold hc_rm hr_rb
  by_cases h : k (100 + 2 * c) 0 = -1
  · rw [if_pos h]
    funext a
    by_cases ha : a = 43
    · rw [ha, hm_uMe]
      funext j
      rw [if_neg (by rw [decide_eq_true_iff]; exact fun z => z.1 h)]
    · rw [hm_uMo _ _ ha]
  · rw [if_neg h, hc_er_eq]
    congr 1
    funext j
    by_cases h2 : (k (100 + 2 * c) 0).toNatClampNeg ≤ j ∧ j < (hm_ren (k (100 + 2 * c) 2) (k (100 + 2 * c) 3)).toNatClampNeg
    · rw [if_pos (by omega), if_pos (by rw [decide_eq_true_iff]; exact ⟨h, h2⟩)]
    · rw [if_neg (by omega), if_neg (by rw [decide_eq_true_iff]; exact fun z => h2 z.2)]
theorem hc_rm_43 {k : hm_M} {c j : Nat} {x : Int32} : hc_rm k c x 43 j = if hr_rb (k (100 + 2 * c)) j = true then k 43 j + x else k 43 j := by
  rw [hc_rm_eq, hm_uMe]
theorem hc_es_43 {k : hm_M} {c t hh : Nat} {x : Int32} (ht : t < 4) : hc_es k c t hh x 43 = k 43 := by
  match t, ht with
  | 0, _ => rfl
  | 1, _ => rfl
  | 2, _ => rfl
  | 3, _ => rfl
theorem hc_es_40 {k : hm_M} {c t hh j : Nat} {x : Int32} (ht : t < 4) : hc_es k c t hh x 40 j = if j = hh then k 40 j + x else k 40 j := by
  have e : hc_es k c t hh x 40 = upd (k 40) hh (k 40 hh + x) := by
    match t, ht with
    | 0, _ => rfl
    | 1, _ => rfl
    | 2, _ => rfl
    | 3, _ => rfl
  rw [e]
  unfold upd
  by_cases hj : j = hh
  · rw [if_pos hj, if_pos hj, hj]
  · rw [if_neg hj, if_neg hj]
theorem hc_es_45 {k : hm_M} {c t hh j : Nat} {x : Int32} (ht : t < 4) : hc_es k c t hh x 45 j = if j = hh then k 45 j + x else k 45 j := by
  have e : hc_es k c t hh x 45 = upd (k 45) hh (k 45 hh + x) := by
    match t, ht with
    | 0, _ => rfl
    | 1, _ => rfl
    | 2, _ => rfl
    | 3, _ => rfl
  rw [e]
  unfold upd
  by_cases hj : j = hh
  · rw [if_pos hj, if_pos hj, hj]
  · rw [if_neg hj, if_neg hj]
theorem hc_es_41 {k : hm_M} {c t hh j : Nat} {x : Int32} (ht : t < 4) : hc_es k c t hh x 41 j = if j = hh ∧ t = 1 then k 41 j + x else k 41 j := by
  have e : hc_es k c t hh x 41 = if t = 1 then upd (k 41) hh (k 41 hh + x) else k 41 := by
    match t, ht with
    | 0, _ => rfl
    | 1, _ => rfl
    | 2, _ => rfl
    | 3, _ => rfl
  rw [e]
  by_cases h1 : t = 1
  · rw [if_pos h1]
    unfold upd
    by_cases hj : j = hh
    · rw [if_pos hj, if_pos ⟨hj, h1⟩, hj]
    · rw [if_neg hj, if_neg (fun z => hj z.1)]
  · rw [if_neg h1, if_neg (fun z => h1 z.2)]
theorem hc_es_42 {k : hm_M} {c t hh j : Nat} {x : Int32} (ht : t < 4) : hc_es k c t hh x 42 j = if j = hh ∧ t = 2 then k 42 j + x else k 42 j := by
  have e : hc_es k c t hh x 42 = if t = 2 then upd (k 42) hh (k 42 hh + x) else k 42 := by
    match t, ht with
    | 0, _ => rfl
    | 1, _ => rfl
    | 2, _ => rfl
    | 3, _ => rfl
  rw [e]
  by_cases h1 : t = 2
  · rw [if_pos h1]
    unfold upd
    by_cases hj : j = hh
    · rw [if_pos hj, if_pos ⟨hj, h1⟩, hj]
    · rw [if_neg hj, if_neg (fun z => hj z.1)]
  · rw [if_neg h1, if_neg (fun z => h1 z.2)]
theorem hc_es_44 {k : hm_M} {c t hh j : Nat} {x : Int32} (ht : t < 4) : hc_es k c t hh x 44 j = if j = hh ∧ (t = 1 ∨ t = 3) then k 44 j + x * k 12 c else k 44 j := by
  have e : hc_es k c t hh x 44 = if (t = 1 ∨ t = 3) then upd (k 44) hh (k 44 hh + x * k 12 c) else k 44 := by
    match t, ht with
    | 0, _ => rfl
    | 1, _ => rfl
    | 2, _ => rfl
    | 3, _ => rfl
  rw [e]
  by_cases h1 : t = 1 ∨ t = 3
  · rw [if_pos h1]
    unfold upd
    by_cases hj : j = hh
    · rw [if_pos hj, if_pos ⟨hj, h1⟩, hj]
    · rw [if_neg hj, if_neg (fun z => hj z.1)]
  · rw [if_neg h1, if_neg (fun z => h1 z.2)]
/-- the rows of both, off 43 -/
def hr_row (k : hm_M) (c t hh : Nat) (x : Int32) (r j : Nat) : Int32 := hc_es k c t hh x r j
theorem hc_bk_r {k : hm_M} {c t hh r : Nat} (h1 : 40 ≤ r) (h2 : r ≤ 45) (h3 : ¬ r = 43) : hc_bk k c t hh r = hc_es (hm_uM (hc_rm k c (-1)) (100 + 2 * c) (upd (k (100 + 2 * c)) t (nI hh))) c t hh (nI 1) r := by
  unfold hc_bk
  rw [hm_uMo _ _ (by omega), hc_rm_o h3]
theorem hc_bk_H {k : hm_M} {c t hh : Nat} : hc_bk k c t hh (100 + 2 * c) = upd (k (100 + 2 * c)) t (nI hh) := by
  unfold hc_bk
  rw [hm_uMo _ _ (by omega), hc_rm_o (by omega), hc_es_o (by omega), hm_uMe]
theorem hc_bk_o {k : hm_M} {c t hh f : Nat} (h1 : ¬ f = 31) (h3 : f < 40 ∨ 45 < f) (h4 : ¬ f = 100 + 2 * c) : hc_bk k c t hh f = k f := by
  unfold hc_bk
  rw [hm_uMo _ _ h1, hc_rm_o (by omega), hc_es_o h3, hm_uMo _ _ h4, hc_rm_o (by omega)]
theorem hc_bk_31 {k : hm_M} {c t hh : Nat} : hc_bk k c t hh 31 0 = k 31 0 + nI 1 := rfl
theorem hc_tb_r {k : hm_M} {c t hh r : Nat} (h1 : 40 ≤ r) (h2 : r ≤ 45) (h3 : ¬ r = 43) : hc_tb k c t hh r = hc_es (hc_rm k c (-1)) c t hh (-1) r := by
  unfold hc_tb
  rw [hm_uMo _ _ (by omega), hm_uMo _ _ (by omega), hc_rm_o h3, hm_uMo _ _ (by omega)]
theorem hc_tb_31 {k : hm_M} {c t hh : Nat} : hc_tb k c t hh 31 0 = k 31 0 - nI 1 := rfl
theorem hc_tb_17 {k : hm_M} {c t hh : Nat} : hc_tb k c t hh 17 0 = k 17 0 + nI 1 := rfl
theorem hc_bk_43 {k : hm_M} {c t hh j : Nat} (ht : t < 4) : hc_bk k c t hh 43 j = k 43 j + (hr_b (hr_rb (upd (k (100 + 2 * c)) t (nI hh)) j) - hr_b (hr_rb (k (100 + 2 * c)) j)) := by
  unfold hc_bk
  rw [hm_uMo _ _ (by decide), hc_rm_43]
  have e1 : hc_es (hm_uM (hc_rm k c (-1)) (100 + 2 * c) (upd (k (100 + 2 * c)) t (nI hh))) c t hh (nI 1) (100 + 2 * c) = upd (k (100 + 2 * c)) t (nI hh) := by
    rw [hc_es_o (by omega), hm_uMe]
  rw [e1, hc_es_43 ht, hm_uMo _ _ (by omega), hc_rm_43]
  unfold hr_b
  cases hr_rb (upd (k (100 + 2 * c)) t (nI hh)) j <;> cases hr_rb (k (100 + 2 * c)) j
  · show k 43 j = k 43 j + (nI 0 - nI 0)
    rw [show nI 0 - nI 0 = 0 by decide, Int32.add_zero]
  · show k 43 j + -1 = k 43 j + (nI 0 - nI 1)
    rw [show nI 0 - nI 1 = -1 by decide]
  · show k 43 j + nI 1 = k 43 j + (nI 1 - nI 0)
    rw [show nI 1 - nI 0 = nI 1 by decide]
  · show k 43 j + -1 + nI 1 = k 43 j + (nI 1 - nI 1)
    rw [Int32.add_assoc, show (-1 : Int32) + nI 1 = nI 1 - nI 1 by decide]
theorem hc_tb_43 {k : hm_M} {c t hh j : Nat} (ht : t < 4) : hc_tb k c t hh 43 j = k 43 j + (hr_b (hr_rb (upd (k (100 + 2 * c)) t (-1)) j) - hr_b (hr_rb (k (100 + 2 * c)) j)) := by
  unfold hc_tb
  rw [hm_uMo _ _ (by decide), hm_uMo _ _ (by decide), hc_rm_43, hm_uMe, hm_uMo _ _ (by omega), hc_es_43 ht, hc_rm_43]
  unfold hr_b
  cases hr_rb (upd (k (100 + 2 * c)) t (-1)) j <;> cases hr_rb (k (100 + 2 * c)) j
  · show k 43 j = k 43 j + (nI 0 - nI 0)
    rw [show nI 0 - nI 0 = 0 by decide, Int32.add_zero]
  · show k 43 j + -1 = k 43 j + (nI 0 - nI 1)
    rw [show nI 0 - nI 1 = -1 by decide]
  · show k 43 j + nI 1 = k 43 j + (nI 1 - nI 0)
    rw [show nI 1 - nI 0 = nI 1 by decide]
  · show k 43 j + -1 + nI 1 = k 43 j + (nI 1 - nI 1)
    rw [Int32.add_assoc, show (-1 : Int32) + nI 1 = nI 1 - nI 1 by decide]
/-! counts when one place changes -/
theorem hr_cnt_c {P P2 : Nat → Bool} : ∀ n, (∀ x, x < n → P2 x = P x) → hm_cnt P2 n = hm_cnt P n := by
  intro n
  induction n with
  | zero => intro _; rfl
  | succ n ih =>
    intro h
    show hm_cnt P2 n + (if P2 n = true then 1 else 0) = hm_cnt P n + (if P n = true then 1 else 0)
    rw [ih (fun x hx => h x (by omega)), h n (by omega)]
theorem hr_cnt1 {P P2 : Nat → Bool} {c : Nat} : ∀ n, c < n → (∀ x, x < n → ¬ x = c → P2 x = P x) → hm_cnt P2 n + (if P c = true then 1 else 0) = hm_cnt P n + (if P2 c = true then 1 else 0) := by
  intro n
  induction n with
  | zero => intro h; omega
  | succ n ih =>
    intro hc h
    show hm_cnt P2 n + (if P2 n = true then 1 else 0) + _ = hm_cnt P n + (if P n = true then 1 else 0) + _
    by_cases hn : c = n
    · rw [hr_cnt_c n (fun x hx => h x (by omega) (by omega)), hn]
      omega
    · have i := ih (by omega) (fun x hx => h x (by omega))
      rw [h n (by omega) (fun z => hn z.symm)]
      omega
theorem hr_b_nat (b : Bool) : hr_b b = nI (if b = true then 1 else 0) := by cases b <;> rfl
theorem hr_cntI {P P2 : Nat → Bool} {c n : Nat} (hc : c < n) (h : ∀ x, x < n → ¬ x = c → P2 x = P x) : nI (hm_cnt P2 n) = nI (hm_cnt P n) + (hr_b (P2 c) - hr_b (P c)) := by
  have e := congrArg nI (hr_cnt1 (P := P) (P2 := P2) n hc h)
  rw [← nI_add, ← nI_add, ← hr_b_nat, ← hr_b_nat] at e
  have e2 : nI (hm_cnt P2 n) = nI (hm_cnt P n) + hr_b (P2 c) - hr_b (P c) := by
    rw [← e]
    grind
  rw [e2]
  grind
theorem hr_sg_c {f f2 : Nat → Int32} : ∀ n, (∀ x, x < n → f2 x = f x) → hm_sg f2 n = hm_sg f n := by
  intro n
  induction n with
  | zero => intro _; rfl
  | succ n ih =>
    intro h
    show hm_sg f2 n + f2 n = hm_sg f n + f n
    rw [ih (fun x hx => h x (by omega)), h n (by omega)]
theorem hr_sg1 {f f2 : Nat → Int32} {c : Nat} : ∀ n, c < n → (∀ x, x < n → ¬ x = c → f2 x = f x) → hm_sg f2 n = hm_sg f n + (f2 c - f c) := by
  intro n
  induction n with
  | zero => intro h; omega
  | succ n ih =>
    intro hc h
    show hm_sg f2 n + f2 n = hm_sg f n + f n + _
    by_cases hn : c = n
    · rw [hr_sg_c n (fun x hx => h x (by omega) (by omega)), hn]
      grind
    · rw [ih (by omega) (fun x hx => h x (by omega)), h n (by omega) (fun z => hn z.symm)]
      grind
/-! the room's end on both sides -/
theorem hr_re {f g : Int32} (hf : hm_hv f) (hg : hm_hv g) : ∃ e, e ≤ 400 ∧ hm_ren f g = nI e ∧ (hm_re f g).toInt = (e : Int) - 1 := by
  have n1 : (-1 : Int32) < 0 := by decide
  have n2 : ¬ (0 : Int32) ≤ -1 := by decide
  have z : ∀ a : Nat, a < 400 → (0 : Int32) ≤ nI a := fun a ha => (hx_leI (a := 0) (b := a) (by omega) (by omega)).mpr (by omega)
  have lt : ∀ a b : Nat, a ≤ 400 → b ≤ 400 → (nI a < nI b ↔ a < b) := fun a b ha hb => by
    rw [Int32.lt_iff_toInt_lt, nI_toInt (by omega), nI_toInt (by omega)]
    omega
  unfold hm_ren hm_re hm_re0 hm_re1
  rcases hf with hf | ⟨a, ha, hf⟩ <;> rcases hg with hg | ⟨b, hb, hg⟩
  · rw [if_pos hf, if_pos hg, hf, hg, if_neg n2, if_neg n2]
    exact ⟨400, Nat.le_refl _, rfl, by decide⟩
  · rw [if_pos hf, hf, hg, if_neg (hm_nIm b (by omega)), if_neg n2, if_pos (z b hb)]
    rw [show nI 400 = nI 400 from rfl, if_pos ((lt b 400 (by omega) (by omega)).mpr hb)]
    refine ⟨b, by omega, rfl, ?_⟩
    rw [nI_sub1 b (by omega)]
  · rw [hf, if_neg (hm_nIm a (by omega)), hg, if_pos rfl, if_pos ((lt a 400 (by omega) (by omega)).mpr ha), if_pos (z a ha), if_neg n2, if_pos (z a ha)]
    refine ⟨a, by omega, rfl, ?_⟩
    rw [nI_sub1 a (by omega)]
  · rw [hf, hg, if_neg (hm_nIm a (by omega)), if_neg (hm_nIm b (by omega)), if_pos ((lt a 400 (by omega) (by omega)).mpr ha), if_pos (z a ha), if_pos (z b hb)]
    by_cases hab : b < a
    · rw [if_pos ((lt b a (by omega) (by omega)).mpr hab), if_pos ((hx_leI (by omega) (by omega)).mpr (by omega)), if_pos (z b hb)]
      refine ⟨b, by omega, rfl, ?_⟩
      rw [nI_sub1 b (by omega)]
    · rw [if_neg (fun q => hab ((lt b a (by omega) (by omega)).mp q))]
      by_cases he : b ≤ a
      · rw [if_pos ((hx_leI (by omega) (by omega)).mpr he), if_pos (z b hb)]
        refine ⟨a, by omega, rfl, ?_⟩
        rw [nI_sub1 b (by omega)]
        omega
      · rw [if_neg (fun q => he ((hx_leI (by omega) (by omega)).mp q)), if_pos (z a ha)]
        refine ⟨a, by omega, rfl, ?_⟩
        rw [nI_sub1 a (by omega)]
/-- a room on both sides -/
theorem hr_room {H : Nat → Int32} (hv : ∀ t, t < 4 → hm_hv (H t)) {hh : Nat} (h4 : hh < 400) : (decide (¬ H 0 < 0) && decide ((H 0).toInt ≤ (nI hh).toInt ∧ (nI hh).toInt ≤ (hm_re (H 2) (H 3)).toInt)) = hr_rb H hh := by
  obtain ⟨e, he, e1, e2⟩ := hr_re (hv 2 (by decide)) (hv 3 (by decide))
  unfold hr_rb
  rw [e1, e2, nI_toInt (by omega), nI_clamp (by omega), ← Bool.decide_and]
  refine decide_eq_decide.mpr ?_
  rcases hv 0 (by decide) with h0 | ⟨a, ha, h0⟩
  · rw [h0]
    constructor
    · intro z; exact absurd (by decide) z.1
    · intro z; exact absurd rfl z.1
  · rw [h0, nI_toInt (by omega), nI_clamp (by omega)]
    constructor
    · intro z; exact ⟨hm_nIm a (by omega), by omega, by omega⟩
    · intro z
      refine ⟨?_, by omega, by omega⟩
      rw [Int32.lt_iff_toInt_lt, nI_toInt (by omega)]
      show ¬ (a : Int) < 0
      omega
