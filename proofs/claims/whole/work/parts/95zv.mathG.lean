/-! THE TAKERS OF AN HOUR on both sides -/
theorem hx_first_map {β γ : Type} {g : Int32 → Option β} {φ : β → γ} : ∀ L : List Int32, hx_first (fun x => (g x).map φ) L = (hx_first g L).map φ := by
  intro L
  induction L with
  | nil => rfl
  | cons x L ih =>
    unfold hx_first
    cases g x with
    | some p => rfl
    | none => exact ih
def hx_keep (P : Nat → Bool) : List Nat → List Int32 → List Int32
  | c :: L, p :: ps => if P c = true then p :: hx_keep P L ps else hx_keep P L ps
  | _, _ => []
theorem hx_sol_keep {P : Nat → Bool} {F : Nat → List Int32} : ∀ (L : List Nat) (u : Int32), (∀ c, c ∈ L → P c = false → F c = [nI 0]) → hx_sol ((L.filter P).map F) u = (hx_sol (L.map F) u).map (hx_keep P L) := by
  intro L
  induction L with
  | nil => intro u _; rfl
  | cons c L ih =>
    intro u h
    have h2 : ∀ c2, c2 ∈ L → P c2 = false → F c2 = [nI 0] := fun c2 hc2 => h c2 (List.mem_cons_of_mem _ hc2)
    cases hP : P c with
    | true =>
      rw [List.filter_cons, if_pos hP]
      show hx_first (fun x => if x &&& u = 0 then (hx_sol ((L.filter P).map F) (u ||| x)).map (fun p => x :: p) else none) (F c) = (hx_first (fun x => if x &&& u = 0 then (hx_sol (L.map F) (u ||| x)).map (fun p => x :: p) else none) (F c)).map (hx_keep P (c :: L))
      rw [← hx_first_map]
      congr 1
      funext x
      by_cases hx : x &&& u = 0
      · rw [if_pos hx, if_pos hx, ih _ h2, Option.map_map, Option.map_map]
        congr 1
        funext ps
        show x :: hx_keep P L ps = (if P c = true then x :: hx_keep P L ps else hx_keep P L ps)
        rw [if_pos hP]
      · rw [if_neg hx, if_neg hx]
        rfl
    | false =>
      rw [List.filter_cons, if_neg (by rw [hP]; decide), List.map_cons, h c List.mem_cons_self hP, hx_sol_0, ih u h2, Option.map_map]
      congr 1
      funext ps
      show hx_keep P L ps = (if P c = true then nI 0 :: hx_keep P L ps else hx_keep P L ps)
      rw [if_neg (by rw [hP]; decide)]
theorem hx_sat_keep {P : Nat → Bool} {F : Nat → List Int32} {L : List Nat} {u : Int32} (h : ∀ c, c ∈ L → P c = false → F c = [nI 0]) : hx_sat ((L.filter P).map F) u ↔ hx_sat (L.map F) u := by
  rw [← hx_sol_sat, ← hx_sol_sat, hx_sol_keep L u h, Option.isSome_map]
def hx_need (m : hm_M) (c : Nat) : Bool := decide (¬ m 12 c ≤ 0)
theorem hm_tl_4 {m : hm_M} {hour : Int32} {c : Nat} : hm_tl m hour (4 * c + 4) = hm_tl m hour (4 * c) ++ (if m 15 (4 * c + 1) = hour ∧ ¬ m 12 c ≤ 0 then [4 * c + 1] else []) ++ (if m 15 (4 * c + 3) = hour ∧ ¬ m 12 c ≤ 0 then [4 * c + 3] else []) := by
  have s0 : hm_tl m hour (4 * c + 1) = hm_tl m hour (4 * c) := if_neg (fun z => by omega)
  have s1 : hm_tl m hour (4 * c + 2) = hm_tl m hour (4 * c + 1) ++ (if m 15 (4 * c + 1) = hour ∧ ¬ m 12 c ≤ 0 then [4 * c + 1] else []) := by
    show (if ((4 * c + 1) % 4 = 1 ∨ (4 * c + 1) % 4 = 3) ∧ m 15 (4 * c + 1) = hour ∧ ¬ m 12 ((4 * c + 1) / 4) ≤ 0 then hm_tl m hour (4 * c + 1) ++ [4 * c + 1] else hm_tl m hour (4 * c + 1)) = _
    rw [show (4 * c + 1) / 4 = c by omega]
    by_cases h : m 15 (4 * c + 1) = hour ∧ ¬ m 12 c ≤ 0
    · rw [if_pos h, if_pos ⟨by omega, h⟩]
    · rw [if_neg h, if_neg (fun z => h z.2), List.append_nil]
  have s2 : hm_tl m hour (4 * c + 3) = hm_tl m hour (4 * c + 2) := if_neg (fun z => by omega)
  have s3 : hm_tl m hour (4 * c + 4) = hm_tl m hour (4 * c + 3) ++ (if m 15 (4 * c + 3) = hour ∧ ¬ m 12 c ≤ 0 then [4 * c + 3] else []) := by
    show (if ((4 * c + 3) % 4 = 1 ∨ (4 * c + 3) % 4 = 3) ∧ m 15 (4 * c + 3) = hour ∧ ¬ m 12 ((4 * c + 3) / 4) ≤ 0 then hm_tl m hour (4 * c + 3) ++ [4 * c + 3] else hm_tl m hour (4 * c + 3)) = _
    rw [show (4 * c + 3) / 4 = c by omega]
    by_cases h : m 15 (4 * c + 3) = hour ∧ ¬ m 12 c ≤ 0
    · rw [if_pos h, if_pos ⟨by omega, h⟩]
    · rw [if_neg h, if_neg (fun z => h z.2), List.append_nil]
  rw [s3, s2, s1, s0]
/-- the Model's takers are the class's carried cases that need bearers -/
theorem hx_takers {k m : hm_M} {hour : Int32} {nc : Nat} (hH : hx_H k m nc) (hd : ∀ c, c < nc → ¬ (m 15 (4 * c + 1) = hour ∧ m 15 (4 * c + 3) = hour)) : ∀ c, c ≤ nc → (hm_tl m hour (4 * c)).map (fun x => x / 4) = (hc_wl k hour c).filter (hx_need m) := by
  intro c
  induction c with
  | zero => intro _; rfl
  | succ c ih =>
    intro hc
    have e1 := ih (by omega)
    have h1 := hH c (by omega) 1 (by decide)
    have h3 := hH c (by omega) 3 (by decide)
    rw [show 4 * (c + 1) = 4 * c + 4 by omega, hm_tl_4, List.map_append, List.map_append, e1]
    show _ = (if hc_car k hour c = true then hc_wl k hour c ++ [c] else hc_wl k hour c).filter (hx_need m)
    have hcar : hc_car k hour c = true ↔ (m 15 (4 * c + 1) = hour ∨ m 15 (4 * c + 3) = hour) := by
      unfold hc_car
      rw [decide_eq_true_iff, h1, h3]
    by_cases hn : m 12 c ≤ 0
    · have hnf : hx_need m c = false := decide_eq_false (fun z => z hn)
      rw [if_neg (fun z => z.2 hn), if_neg (fun z => z.2 hn)]
      show (List.filter (hx_need m) (hc_wl k hour c) ++ []) ++ [] = _
      rw [List.append_nil, List.append_nil]
      split
      · rw [List.filter_append, List.filter_cons, if_neg (by rw [hnf]; decide)]
        show _ = _ ++ []
        rw [List.append_nil]
      · rfl
    · have hnt : hx_need m c = true := decide_eq_true hn
      by_cases a1 : m 15 (4 * c + 1) = hour
      · have a3 : ¬ m 15 (4 * c + 3) = hour := fun z => hd c (by omega) ⟨a1, z⟩
        rw [if_pos ⟨a1, hn⟩, if_neg (fun z => a3 z.1), if_pos (hcar.mpr (Or.inl a1)), List.filter_append, List.filter_cons, if_pos hnt]
        show _ ++ [(4 * c + 1) / 4] ++ [] = _ ++ [c]
        rw [List.append_nil, show (4 * c + 1) / 4 = c by omega]
      · rw [if_neg (fun z => a1 z.1)]
        show (_ ++ []) ++ _ = _
        rw [List.append_nil]
        by_cases a3 : m 15 (4 * c + 3) = hour
        · rw [if_pos ⟨a3, hn⟩, if_pos (hcar.mpr (Or.inr a3)), List.filter_append, List.filter_cons, if_pos hnt]
          show _ ++ [(4 * c + 3) / 4] = _ ++ [c]
          rw [show (4 * c + 3) / 4 = c by omega]
        · rw [if_neg (fun z => a3 z.1), if_neg (fun z => (hcar.mp z).elim a1 a3)]
          exact List.append_nil _
/-- one more taker -/
theorem hx_tl_add {m : hm_M} {c t hh : Nat} (ht : t = 1 ∨ t = 3) (hno : ¬ m 15 (4 * c + t) = nI hh) (hn : ¬ m 12 c ≤ 0) : ∀ j, List.Perm (hm_tl (hm_hr m c t hh) (nI hh) j) (if 4 * c + t < j then (4 * c + t) :: hm_tl m (nI hh) j else hm_tl m (nI hh) j) := by
  intro j
  induction j with
  | zero => exact List.Perm.refl _
  | succ j ih =>
    by_cases hj : j = 4 * c + t
    · rw [if_pos (by omega)]
      rw [if_neg (by omega)] at ih
      have e1 : hm_tl (hm_hr m c t hh) (nI hh) (j + 1) = hm_tl (hm_hr m c t hh) (nI hh) j ++ [j] := by
        refine if_pos ⟨by omega, ?_, ?_⟩
        · show upd (m 15) (4 * c + t) (nI hh) j = nI hh
          exact if_pos hj
        · show ¬ m 12 (j / 4) ≤ 0
          rw [show j / 4 = c by omega]
          exact hn
      have e2 : hm_tl m (nI hh) (j + 1) = hm_tl m (nI hh) j := if_neg (fun z => hno (by rw [← hj]; exact z.2.1))
      rw [e1, e2, hj]
      rw [hj] at ih
      exact List.perm_append_comm.trans (List.Perm.cons _ ih)
    · have e0 : hm_hr m c t hh 15 j = m 15 j := if_neg hj
      have e1 : hm_tl (hm_hr m c t hh) (nI hh) (j + 1) = (if (j % 4 = 1 ∨ j % 4 = 3) ∧ m 15 j = nI hh ∧ ¬ m 12 (j / 4) ≤ 0 then hm_tl (hm_hr m c t hh) (nI hh) j ++ [j] else hm_tl (hm_hr m c t hh) (nI hh) j) := by
        show (if (j % 4 = 1 ∨ j % 4 = 3) ∧ hm_hr m c t hh 15 j = nI hh ∧ ¬ hm_hr m c t hh 12 (j / 4) ≤ 0 then _ else _) = _
        rw [e0]
        rfl
      have e2 : hm_tl m (nI hh) (j + 1) = (if (j % 4 = 1 ∨ j % 4 = 3) ∧ m 15 j = nI hh ∧ ¬ m 12 (j / 4) ≤ 0 then hm_tl m (nI hh) j ++ [j] else hm_tl m (nI hh) j) := rfl
      rw [e1, e2]
      by_cases hP : (j % 4 = 1 ∨ j % 4 = 3) ∧ m 15 j = nI hh ∧ ¬ m 12 (j / 4) ≤ 0
      · rw [if_pos hP, if_pos hP]
        by_cases hlt : 4 * c + t < j
        · rw [if_pos (show 4 * c + t < j + 1 by omega)]
          rw [if_pos hlt] at ih
          exact ih.append_right [j]
        · rw [if_neg (show ¬ 4 * c + t < j + 1 by omega)]
          rw [if_neg hlt] at ih
          exact ih.append_right [j]
      · rw [if_neg hP, if_neg hP]
        by_cases hlt : 4 * c + t < j
        · rw [if_pos (show 4 * c + t < j + 1 by omega)]
          rw [if_pos hlt] at ih
          exact ih
        · rw [if_neg (show ¬ 4 * c + t < j + 1 by omega)]
          rw [if_neg hlt] at ih
          exact ih
