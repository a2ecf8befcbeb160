/-! SETS FOR ALL TAKERS: the class's search, the Model's, and whether there are any -/
def hx_sol : List (List Int32) → Int32 → Option (List Int32)
  | [], _ => some []
  | L :: Ls, u => hx_first (fun x => if x &&& u = 0 then (hx_sol Ls (u ||| x)).map (fun p => x :: p) else none) L
def hx_lists (ht : Nat → Int32) (nb : Nat) (N P : Nat → Int32) : Nat → Nat → List (List Int32)
  | 0, _ => []
  | r + 1, kk => hx_LL ht (P kk) (N kk).toNatClampNeg nb :: hx_lists ht nb N P r (kk + 1)
theorem hx_ss {ht : Nat → Int32} {h : Nat → Nat} {nb : Nat} {N P : Nat → Int32} (hnb : nb ≤ 12) (hht : ∀ i, i < nb → ht i = nI (h i) ∧ 0 < h i ∧ h i < 999) : ∀ (r kk : Nat) (aw : Int32), (∀ i, kk ≤ i → i < kk + r → ∃ s0, P i = nI s0 ∧ s0 < 1000) → hc_ss ht nb N P r kk aw = hx_sol (hx_lists ht nb N P r kk) aw := by
  intro r
  induction r with
  | zero => intro kk aw _; rfl
  | succ r ih =>
    intro kk aw hP
    obtain ⟨s0, h1, h2⟩ := hP kk (by omega) (by omega)
    show hc_fl _ nb _ (N kk).toNatClampNeg (nI 0) (hc_pre nb aw) = hx_first _ (hx_LL ht (P kk) (N kk).toNatClampNeg nb)
    rw [hx_one hnb h1 h2 hht]
    congr 1
    funext x
    by_cases hx : x &&& aw = 0
    · rw [if_pos hx, if_pos hx, ih (kk + 1) (aw ||| x) (fun i a b => hP i (by omega) (by omega))]
    · rw [if_neg hx, if_neg hx]
theorem hx_lists_map {ht : Nat → Int32} {nb : Nat} {N P : Nat → Int32} : ∀ (L A : List Nat), hx_lists ht nb (hc_at N (A ++ L)) (hc_at P (A ++ L)) L.length A.length = L.map (fun c => hx_LL ht (P c) (N c).toNatClampNeg nb) := by
  intro L
  induction L with
  | nil => intro A; rfl
  | cons c L ih =>
    intro A
    have e : (A ++ c :: L)[A.length]? = some c := by rw [List.getElem?_append_right (Nat.le_refl _), Nat.sub_self]; rfl
    show hx_LL ht (hc_at P (A ++ c :: L) A.length) (hc_at N (A ++ c :: L) A.length).toNatClampNeg nb :: hx_lists ht nb (hc_at N (A ++ c :: L)) (hc_at P (A ++ c :: L)) L.length (A.length + 1) = _
    have e2 := ih (A ++ [c])
    rw [List.append_assoc, List.length_append] at e2
    rw [show hc_at P (A ++ c :: L) A.length = P c by unfold hc_at; rw [e]; rfl, show hc_at N (A ++ c :: L) A.length = N c by unfold hc_at; rw [e]; rfl]
    exact congrArg _ e2
/-- the places that the Model's search finds, as sets -/
def hx_pick : List (List Int32) → List Nat → List Int32
  | L :: Ls, p :: ps => (L[p]?).getD 0 :: hx_pick Ls ps
  | _, _ => []
theorem hx_fip {g : Int32 → Option (List Nat)} {φ : List Nat → List Int32} {L0 : List Int32} {Ls : List (List Int32)} (hφ : ∀ ps, φ ps = hx_pick Ls ps) : ∀ (L : List Int32) (q : Nat), (∀ i, L0[q + i]? = L[i]?) → (hm_fi g L q).map (hx_pick (L0 :: Ls)) = hx_first (fun x => (g x).map (fun p => x :: φ p)) L := by
  intro L
  induction L with
  | nil => intro q _; rfl
  | cons x L ih =>
    intro q hq
    have hx : L0[q]? = some x := hq 0
    cases hg : g x with
    | some p =>
      have e1 : hm_fi g (x :: L) q = some (q :: p) := by show (match g x with | some p => some (q :: p) | none => _) = _; rw [hg]
      have e2 : hx_first (fun x => (g x).map (fun p => x :: φ p)) (x :: L) = some (x :: φ p) := by
        unfold hx_first
        rw [hg]
        rfl
      rw [e1, e2]
      show some ((L0[q]?).getD 0 :: hx_pick Ls p) = some (x :: φ p)
      rw [hx, hφ]
      rfl
    | none =>
      have e1 : hm_fi g (x :: L) q = hm_fi g L (q + 1) := by show (match g x with | some p => some (q :: p) | none => _) = _; rw [hg]
      have e2 : hx_first (fun x => (g x).map (fun p => x :: φ p)) (x :: L) = hx_first (fun x => (g x).map (fun p => x :: φ p)) L := by
        conv => lhs; unfold hx_first
        rw [hg]
        rfl
      rw [e1, e2]
      exact ih (q + 1) (fun i => by have e := hq (i + 1); rw [show q + (i + 1) = q + 1 + i by omega] at e; exact e)
theorem hx_ff : ∀ (Ls : List (List Int32)) (u : Int32), (hm_ff Ls u).map (hx_pick Ls) = hx_sol Ls u := by
  intro Ls
  induction Ls with
  | nil => intro u; rfl
  | cons L Ls ih =>
    intro u
    have e := hx_fip (g := fun x => if x &&& u = 0 then hm_ff Ls (u ||| x) else none) (φ := hx_pick Ls) (L0 := L) (Ls := Ls) (fun _ => rfl) L 0 (fun i => by rw [Nat.zero_add])
    show (hm_fi _ L 0).map _ = _
    rw [e]
    show _ = hx_first _ L
    congr 1
    funext x
    by_cases hx : x &&& u = 0
    · rw [if_pos hx, if_pos hx, ← ih (u ||| x), Option.map_map]
      rfl
    · rw [if_neg hx, if_neg hx]
      rfl
/-- there are sets for all -/
def hx_sat : List (List Int32) → Int32 → Prop
  | [], _ => True
  | L :: Ls, u => ∃ x, x ∈ L ∧ x &&& u = 0 ∧ hx_sat Ls (u ||| x)
theorem hx_first_some {β : Type} {g : Int32 → Option β} : ∀ L : List Int32, (hx_first g L).isSome = true ↔ ∃ x, x ∈ L ∧ (g x).isSome = true := by
  intro L
  induction L with
  | nil => exact ⟨fun z => Bool.noConfusion (show false = true from z), fun ⟨x, h, _⟩ => absurd h (List.not_mem_nil)⟩
  | cons x L ih =>
    show (match g x with | some p => some p | none => hx_first g L).isSome = true ↔ _
    cases hg : g x with
    | some p => exact ⟨fun _ => ⟨x, List.mem_cons_self, by rw [hg]; rfl⟩, fun _ => rfl⟩
    | none =>
      dsimp only
      rw [ih]
      constructor
      · rintro ⟨y, h1, h2⟩
        exact ⟨y, List.mem_cons_of_mem _ h1, h2⟩
      · rintro ⟨y, h1, h2⟩
        rcases List.mem_cons.mp h1 with h3 | h3
        · rw [h3, hg] at h2
          cases h2
        · exact ⟨y, h3, h2⟩
theorem hx_sol_sat : ∀ (Ls : List (List Int32)) (u : Int32), (hx_sol Ls u).isSome = true ↔ hx_sat Ls u := by
  intro Ls
  induction Ls with
  | nil => intro u; exact ⟨fun _ => trivial, fun _ => rfl⟩
  | cons L Ls ih =>
    intro u
    show (hx_first _ L).isSome = true ↔ _
    rw [hx_first_some]
    constructor
    · rintro ⟨x, h1, h2⟩
      by_cases hx : x &&& u = 0
      · rw [if_pos hx, Option.isSome_map] at h2
        exact ⟨x, h1, hx, (ih _).mp h2⟩
      · rw [if_neg hx] at h2
        cases h2
    · rintro ⟨x, h1, h2, h3⟩
      exact ⟨x, h1, by rw [if_pos h2, Option.isSome_map]; exact (ih _).mpr h3⟩
theorem hx_and_or {x u y : Int32} : x &&& (u ||| y) = 0 ↔ (x &&& u = 0 ∧ x &&& y = 0) := by
  rw [hx_disj, hx_disj, hx_disj]
  constructor
  · intro h
    refine ⟨fun i hi hx => ?_, fun i hi hx => ?_⟩
    · have := h i hi hx
      rw [hc_has_or _ _ i hi, Bool.or_eq_false_iff] at this
      exact this.1
    · have := h i hi hx
      rw [hc_has_or _ _ i hi, Bool.or_eq_false_iff] at this
      exact this.2
  · rintro ⟨h1, h2⟩ i hi hx
    rw [hc_has_or _ _ i hi, h1 i hi hx, h2 i hi hx]
    rfl
theorem hx_and_comm (x y : Int32) : x &&& y = y &&& x := hc_ext (fun i hi => by rw [hc_has_and _ _ i hi, hc_has_and _ _ i hi, Bool.and_comm])
theorem hx_or_sw (u x y : Int32) : u ||| x ||| y = u ||| y ||| x := hc_ext (fun i hi => by rw [hc_has_or _ _ i hi, hc_has_or _ _ i hi, hc_has_or _ _ i hi, hc_has_or _ _ i hi, Bool.or_assoc, Bool.or_comm (hm_has x (nI i)), ← Bool.or_assoc])
theorem hx_sat_perm {A B : List (List Int32)} (h : List.Perm A B) : ∀ u, hx_sat A u ↔ hx_sat B u := by
  induction h with
  | nil => intro u; exact Iff.rfl
  | cons L _ ih =>
    intro u
    constructor
    · rintro ⟨x, h1, h2, h3⟩
      exact ⟨x, h1, h2, (ih _).mp h3⟩
    · rintro ⟨x, h1, h2, h3⟩
      exact ⟨x, h1, h2, (ih _).mpr h3⟩
  | swap L1 L2 Ls =>
    intro u
    constructor
    · rintro ⟨x, h1, h2, y, h3, h4, h5⟩
      have h6 := hx_and_or.mp h4
      refine ⟨y, h3, h6.1, x, h1, hx_and_or.mpr ⟨h2, by rw [hx_and_comm]; exact h6.2⟩, ?_⟩
      rw [hx_or_sw]
      exact h5
    · rintro ⟨x, h1, h2, y, h3, h4, h5⟩
      have h6 := hx_and_or.mp h4
      refine ⟨y, h3, h6.1, x, h1, hx_and_or.mpr ⟨h2, by rw [hx_and_comm]; exact h6.2⟩, ?_⟩
      rw [hx_or_sw]
      exact h5
  | trans _ _ ih1 ih2 => intro u; exact (ih1 u).trans (ih2 u)
/-- who needs none has the empty set alone -/
theorem hx_LL_0 {ht : Nat → Int32} {nb s0 : Nat} (hs0 : s0 < 1000) : hx_LL ht (nI s0) 0 nb = [nI 0] := by
  have e : hx_en 0 nb 0 nb hx_id = [hx_id] := by unfold hx_en; rfl
  unfold hx_LL
  rw [e, List.flatMap_singleton]
  have e2 : ¬ nI s0 < nI 0 - nI 999 := fun z => by
    have h1 := Int32.lt_iff_toInt_lt.mp z
    rw [nI_toInt (by omega), show (nI 0 - nI 999).toInt = -999 by decide +kernel] at h1
    omega
  exact if_neg e2
theorem hx_0and (u : Int32) : nI 0 &&& u = 0 := hx_disj.mpr (fun i hi hx => by rw [hc_has_0 ⟨i, hi⟩] at hx; cases hx)
theorem hx_or0 (u : Int32) : u ||| nI 0 = u := hc_ext (fun i hi => by rw [hc_has_or _ _ i hi, hc_has_0 ⟨i, hi⟩, Bool.or_false])
theorem hx_sol_0 {Ls : List (List Int32)} {u : Int32} : hx_sol ([nI 0] :: Ls) u = (hx_sol Ls u).map (fun p => nI 0 :: p) := by
  show hx_first _ [nI 0] = _
  rw [hx_first_1, if_pos (hx_0and u), hx_or0]
theorem hx_sat_0 {Ls : List (List Int32)} {u : Int32} : hx_sat ([nI 0] :: Ls) u ↔ hx_sat Ls u := by
  constructor
  · rintro ⟨x, h1, _, h3⟩
    rw [List.mem_singleton.mp h1, hx_or0] at h3
    exact h3
  · intro h
    exact ⟨nI 0, List.mem_singleton.mpr rfl, hx_0and u, by rw [hx_or0]; exact h⟩
