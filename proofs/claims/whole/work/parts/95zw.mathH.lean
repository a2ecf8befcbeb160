/-! THE BEARERS OF AN HOUR on both sides -/
def hr_F (m : hm_M) (nc nb c : Nat) : List Int32 := if c < nc then hx_LL (m 3) (m 13 c) (m 12 c).toNatClampNeg nb else []
/-- what the numbers of cases and bearers keep -/
def hr_C (m : hm_M) (nc nb : Nat) : Prop := nb ≤ 12 ∧ (∀ i, i < nb → ∃ h, m 3 i = nI h ∧ 140 ≤ h ∧ h ≤ 210) ∧ (∀ c, c < nc → ∃ d, m 12 c = nI d ∧ d ≤ 6) ∧ (∀ c, c < nc → ∃ s, m 13 c = nI s ∧ s ≤ 70)
theorem hx_sat_less : ∀ (Ls : List (List Int32)) (u x : Int32), hx_sat Ls (u ||| x) → hx_sat Ls u := by
  intro Ls
  induction Ls with
  | nil => intro _ _ _; exact True.intro
  | cons L Ls ih =>
    intro u x h
    obtain ⟨y, hy, h1, h2⟩ := h
    refine ⟨y, hy, (hx_and_or.mp h1).1, ih (u ||| y) x ?_⟩
    rw [hx_or_sw]
    exact h2
theorem hx_sat_sub {A B : List (List Int32)} (h : List.Sublist A B) : ∀ u, hx_sat B u → hx_sat A u := by
  induction h with
  | slnil => intro _ _; exact True.intro
  | cons a _ ih =>
    intro u hu
    obtain ⟨y, _, _, h2⟩ := hu
    exact ih u (hx_sat_less _ _ _ h2)
  | cons_cons a _ ih =>
    intro u hu
    obtain ⟨y, hy, h1, h2⟩ := hu
    exact ⟨y, hy, h1, ih _ h2⟩
theorem hc_wl_mem {k : hm_M} {hour : Int32} : ∀ (n c : Nat), c ∈ hc_wl k hour n ↔ (c < n ∧ hc_car k hour c = true) := by
  intro n
  induction n with
  | zero => intro c; exact ⟨fun h => absurd h List.not_mem_nil, fun h => absurd h.1 (by omega)⟩
  | succ n ih =>
    intro c
    show c ∈ (if hc_car k hour n = true then hc_wl k hour n ++ [n] else hc_wl k hour n) ↔ _
    by_cases hn : hc_car k hour n = true
    · rw [if_pos hn, List.mem_append, ih c, List.mem_singleton]
      constructor
      · rintro (h | h)
        · exact ⟨by omega, h.2⟩
        · exact ⟨by omega, by rw [h]; exact hn⟩
      · intro h
        by_cases hc : c = n
        · exact Or.inr hc
        · exact Or.inl ⟨by omega, h.2⟩
    · rw [if_neg hn, ih c]
      constructor
      · intro h; exact ⟨by omega, h.2⟩
      · intro h
        refine ⟨?_, h.2⟩
        by_cases hc : c = n
        · exact absurd (by rw [← hc]; exact h.2) hn
        · omega
theorem hr_F_lt {m : hm_M} {nc nb c : Nat} (hc : c < nc) : hr_F m nc nb c = hx_LL (m 3) (m 13 c) (m 12 c).toNatClampNeg nb := if_pos hc
theorem hr_F_0 {m : hm_M} {nc nb c : Nat} (C : hr_C m nc nb) (hc : c < nc) (hn : m 12 c ≤ 0) : hr_F m nc nb c = [nI 0] := by
  obtain ⟨d, e1, h1⟩ := C.2.2.1 c hc
  obtain ⟨s, e2, h2⟩ := C.2.2.2 c hc
  have hd : d = 0 := by
    rw [e1] at hn
    have := (hx_leI (a := d) (b := 0) (by omega) (by omega)).mp hn
    omega
  rw [hr_F_lt hc, e2, e1, hd]
  exact hx_LL_0 (by omega)
theorem hr_V {k m : hm_M} {nc nb : Nat} {L : List Nat} (C : hr_C m nc nb) (h3 : k 3 = m 3) (h12 : k 12 = m 12) (h13 : k 13 = m 13) (hL : L.length ≤ 100) (hm : ∀ c, c ∈ L → c < nc) : hc_V k nb L = hx_sol (L.map (hr_F m nc nb)) (nI 0) := by
  have e := hx_V (k := k) (h := fun i => (m 3 i).toNatClampNeg) (nb := nb) (L := L) (d := fun c => (m 12 c).toNatClampNeg) C.1 (fun i hi => by
    obtain ⟨x, e1, h1, h2⟩ := C.2.1 i hi
    have e2 : (m 3 i).toNatClampNeg = x := by rw [e1]; exact nI_clamp (by omega)
    rw [e2, h3, e1]
    exact ⟨rfl, by omega, by omega⟩) hL (fun c hc => by
    obtain ⟨x, e1, h1⟩ := C.2.2.1 c (hm c hc)
    have e2 : (m 12 c).toNatClampNeg = x := by rw [e1]; exact nI_clamp (by omega)
    rw [e2, h12, e1]
    exact ⟨rfl, h1⟩) (fun c hc => by
    obtain ⟨x, e1, h1⟩ := C.2.2.2 c (hm c hc)
    rw [h13]
    exact ⟨x, e1, by omega⟩)
  rw [e]
  congr 1
  refine List.map_congr_left (fun c hc => ?_)
  rw [hr_F_lt (hm c hc), h3, h13]
theorem hm_tl_mem {m : hm_M} {hour : Int32} : ∀ (n x : Nat), x ∈ hm_tl m hour n ↔ (x < n ∧ (x % 4 = 1 ∨ x % 4 = 3) ∧ m 15 x = hour ∧ ¬ m 12 (x / 4) ≤ 0) := by
  intro n
  induction n with
  | zero => intro x; exact ⟨fun h => absurd h List.not_mem_nil, fun h => absurd h.1 (by omega)⟩
  | succ n ih =>
    intro x
    show x ∈ (if (n % 4 = 1 ∨ n % 4 = 3) ∧ m 15 n = hour ∧ ¬ m 12 (n / 4) ≤ 0 then hm_tl m hour n ++ [n] else hm_tl m hour n) ↔ _
    by_cases hn : (n % 4 = 1 ∨ n % 4 = 3) ∧ m 15 n = hour ∧ ¬ m 12 (n / 4) ≤ 0
    · rw [if_pos hn, List.mem_append, ih x, List.mem_singleton]
      constructor
      · rintro (h | h)
        · exact ⟨by omega, h.2⟩
        · exact ⟨by omega, by rw [h]; exact hn⟩
      · intro h
        by_cases hc : x = n
        · exact Or.inr hc
        · exact Or.inl ⟨by omega, h.2⟩
    · rw [if_neg hn, ih x]
      constructor
      · intro h; exact ⟨by omega, h.2⟩
      · intro h
        refine ⟨?_, h.2⟩
        by_cases hc : x = n
        · exact absurd (by rw [← hc]; exact h.2) hn
        · omega
theorem hr_fs {m : hm_M} {LL : Nat → List Int32} {hour : Int32} {nc : Nat} : (hm_fs m LL hour nc).isSome = true ↔ hx_sat (((hm_tl m hour (4 * nc)).map (fun x => x / 4)).map LL) (nI 0) := by
  unfold hm_fs
  rw [← hx_sol_sat, ← hx_ff, Option.isSome_map, List.map_map]
  rfl
/-- whether all can be carried, with one more -/
theorem hr_claim {k m : hm_M} {nc nb c t hh : Nat} (C : hr_C m nc nb) (h3 : k 3 = m 3) (h12 : k 12 = m 12) (h13 : k 13 = m 13) (hH : hx_H k m nc) (hd : ∀ c, c < nc → ¬ (m 15 (4 * c + 1) = nI hh ∧ m 15 (4 * c + 3) = nI hh)) (hc : c < nc) (ht : t = 1 ∨ t = 3) (hno : ¬ m 15 (4 * c + t) = nI hh) (hn : ¬ m 12 c ≤ 0) (hl : (hc_wl k (nI hh) nc).length ≤ 90) : (hc_V k nb (hc_wl k (nI hh) nc ++ [c])).isSome = (hm_fs (hm_hr m c t hh) (hr_F m nc nb) (nI hh) nc).isSome := by
  have hm0 : ∀ x, x ∈ hc_wl k (nI hh) nc ++ [c] → x < nc := fun x hx => by
    rcases List.mem_append.mp hx with h | h
    · exact ((hc_wl_mem nc x).mp h).1
    · rw [List.mem_singleton.mp h]; exact hc
  have e1 : (hc_V k nb (hc_wl k (nI hh) nc ++ [c])).isSome = true ↔ hx_sat ((hc_wl k (nI hh) nc ++ [c]).map (hr_F m nc nb)) (nI 0) := by
    rw [hr_V C h3 h12 h13 (by rw [List.length_append]; show _ + 1 ≤ 100; omega) hm0]
    exact hx_sol_sat _ _
  have p1 := hx_tl_add (m := m) (c := c) (t := t) (hh := hh) ht hno hn (4 * nc)
  rw [if_pos (by omega)] at p1
  have p2 : List.Perm (((hm_tl (hm_hr m c t hh) (nI hh) (4 * nc)).map (fun x => x / 4)).map (hr_F m nc nb)) ((c :: (hc_wl k (nI hh) nc).filter (hx_need m)).map (hr_F m nc nb)) := by
    have q := (p1.map (fun x => x / 4)).map (hr_F m nc nb)
    rw [List.map_cons, show (4 * c + t) / 4 = c by omega, hx_takers hH hd nc (Nat.le_refl _)] at q
    exact q
  have p3 : c :: (hc_wl k (nI hh) nc).filter (hx_need m) = (c :: hc_wl k (nI hh) nc).filter (hx_need m) := by
    rw [List.filter_cons, if_pos (show hx_need m c = true from decide_eq_true hn)]
  have e2 : (hm_fs (hm_hr m c t hh) (hr_F m nc nb) (nI hh) nc).isSome = true ↔ hx_sat ((hc_wl k (nI hh) nc ++ [c]).map (hr_F m nc nb)) (nI 0) := by
    rw [hr_fs, hx_sat_perm p2, p3, hx_sat_keep]
    · exact hx_sat_perm ((List.perm_append_comm (l₁ := [c]) (l₂ := hc_wl k (nI hh) nc)).map _) _
    · intro x hx hP
      refine hr_F_0 C (hm0 x (by rcases List.mem_cons.mp hx with h | h; exact List.mem_append.mpr (Or.inr (List.mem_singleton.mpr h)); exact List.mem_append.mpr (Or.inl h))) ?_
      by_cases hz : m 12 x ≤ 0
      · exact hz
      · exact absurd hP (by unfold hx_need; rw [decide_eq_true hz]; decide)
  cases ha : (hc_V k nb (hc_wl k (nI hh) nc ++ [c])).isSome <;> cases hb : (hm_fs (hm_hr m c t hh) (hr_F m nc nb) (nI hh) nc).isSome
  · rfl
  · exact absurd (e1.mpr (e2.mp hb)) (by rw [ha]; decide)
  · exact absurd (e2.mpr (e1.mp ha)) (by rw [hb]; decide)
  · rfl
/-- one that needs none -/
theorem hr_claim0 {k m : hm_M} {nc nb c hh : Nat} (C : hr_C m nc nb) (h3 : k 3 = m 3) (h12 : k 12 = m 12) (h13 : k 13 = m 13) (hc : c < nc) (hn : m 12 c ≤ 0) (hl : (hc_wl k (nI hh) nc).length ≤ 90) (hs : hx_sat ((hc_wl k (nI hh) nc).map (hr_F m nc nb)) (nI 0)) : (hc_V k nb (hc_wl k (nI hh) nc ++ [c])).isSome = true := by
  rw [hr_V C h3 h12 h13 (by rw [List.length_append]; show _ + 1 ≤ 100; omega) (fun x hx => by
    rcases List.mem_append.mp hx with h | h
    · exact ((hc_wl_mem nc x).mp h).1
    · rw [List.mem_singleton.mp h]; exact hc)]
  refine (hx_sol_sat _ _).mpr ((hx_sat_perm ((List.perm_append_comm (l₁ := [c]) (l₂ := hc_wl k (nI hh) nc)).map _) _).mp ?_)
  show hx_sat (hr_F m nc nb c :: (hc_wl k (nI hh) nc).map (hr_F m nc nb)) (nI 0)
  rw [hr_F_0 C hc hn]
  exact hx_sat_0.mpr hs
/-! the set of one case -/
def hx_lk (c : Nat) : List Nat → List Int32 → Int32 → Int32
  | x :: L, p :: ps, a => hx_lk c L ps (if x = c then p else a)
  | _, _, a => a
theorem hr_pk {LL : Nat → List Int32} {c t : Nat} : ∀ (Ts qs : List Nat) (a : Int32), qs.length = Ts.length → (∀ x, x ∈ Ts → (x = 4 * c + t ↔ x / 4 = c)) → hm_pk LL (4 * c + t) Ts qs a = hx_lk c (Ts.map (fun x => x / 4)) (hx_pick (Ts.map (fun x => LL (x / 4))) qs) a := by
  intro Ts
  induction Ts with
  | nil => intro qs a _ _; rfl
  | cons x Ts ih =>
    intro qs a hl hu
    cases qs with
    | nil => exact absurd hl (by rw [List.length_cons]; exact fun z => nomatch z)
    | cons q qs =>
      show hm_pk LL (4 * c + t) Ts qs (if x = 4 * c + t then (LL (x / 4))[q]?.getD 0 else a) = hx_lk c (Ts.map (fun x => x / 4)) (hx_pick (Ts.map (fun x => LL (x / 4))) qs) (if x / 4 = c then (LL (x / 4))[q]?.getD 0 else a)
      rw [ih qs _ (by rw [List.length_cons, List.length_cons] at hl; omega) (fun y hy => hu y (List.mem_cons_of_mem _ hy))]
      have h := hu x List.mem_cons_self
      by_cases hx : x = 4 * c + t
      · rw [if_pos hx, if_pos (h.mp hx)]
      · rw [if_neg hx, if_neg (fun z => hx (h.mpr z))]
theorem hr_pk0 {LL : Nat → List Int32} {key : Nat} : ∀ (Ts qs : List Nat) (a : Int32), ¬ key ∈ Ts → hm_pk LL key Ts qs a = a := by
  intro Ts
  induction Ts with
  | nil => intro qs a _; rfl
  | cons x Ts ih =>
    intro qs a h
    show hm_pk LL key Ts qs.tail (if x = key then (LL (x / 4))[qs.headD 0]?.getD 0 else a) = a
    rw [ih _ _ (fun z => h (List.mem_cons_of_mem _ z)), if_neg (fun z => h (by rw [z]; exact List.mem_cons_self))]
theorem hr_lk_keep {P : Nat → Bool} {c : Nat} (hP : P c = true) : ∀ (L : List Nat) (ps : List Int32) (a : Int32), hx_lk c (L.filter P) (hx_keep P L ps) a = hx_lk c L ps a := by
  intro L
  induction L with
  | nil => intro ps a; rfl
  | cons x L ih =>
    intro ps a
    cases ps with
    | nil =>
      show hx_lk c ((x :: L).filter P) [] a = a
      cases (x :: L).filter P <;> rfl
    | cons p ps =>
      by_cases hx : P x = true
      · rw [List.filter_cons, if_pos hx]
        show hx_lk c (x :: L.filter P) (if P x = true then p :: hx_keep P L ps else hx_keep P L ps) a = hx_lk c L ps (if x = c then p else a)
        rw [if_pos hx]
        exact ih ps _
      · rw [List.filter_cons, if_neg hx]
        show hx_lk c (L.filter P) (if P x = true then p :: hx_keep P L ps else hx_keep P L ps) a = hx_lk c L ps (if x = c then p else a)
        rw [if_neg hx, if_neg (fun z => hx (by rw [z]; exact hP))]
        exact ih ps _
theorem hr_lk_no {c : Nat} : ∀ (L : List Nat) (ps : List Int32) (a : Int32), ¬ c ∈ L → hx_lk c L ps a = a := by
  intro L
  induction L with
  | nil => intro ps a _; cases ps <;> rfl
  | cons x L ih =>
    intro ps a h
    cases ps with
    | nil => rfl
    | cons p ps =>
      show hx_lk c L ps (if x = c then p else a) = a
      rw [if_neg (fun z => h (by rw [z]; exact List.mem_cons_self))]
      exact ih ps a (fun z => h (List.mem_cons_of_mem _ z))
theorem hr_lk_at {c : Nat} : ∀ (A B : List Nat) (ps : List Int32) (a : Int32), ¬ c ∈ A → ¬ c ∈ B → hx_lk c (A ++ c :: B) ps a = (ps[A.length]?).getD a := by
  intro A
  induction A with
  | nil =>
    intro B ps a _ hB
    cases ps with
    | nil => rfl
    | cons p ps =>
      show hx_lk c B ps (if c = c then p else a) = p
      rw [if_pos rfl]
      exact hr_lk_no B ps p hB
  | cons x A ih =>
    intro B ps a hA hB
    cases ps with
    | nil => rfl
    | cons p ps =>
      show hx_lk c (A ++ c :: B) ps (if x = c then p else a) = _
      rw [if_neg (fun z => hA (by rw [z]; exact List.mem_cons_self)), ih B ps a (fun z => hA (List.mem_cons_of_mem _ z)) hB]
      rfl
theorem hc_wl_split {k : hm_M} {hour : Int32} {c : Nat} (hc : hc_car k hour c = true) : ∀ j, ∃ B, hc_wl k hour (c + 1 + j) = hc_wl k hour c ++ c :: B ∧ ∀ x, x ∈ B → c < x := by
  intro j
  induction j with
  | zero => exact ⟨[], if_pos hc, fun x hx => nomatch hx⟩
  | succ j ih =>
    obtain ⟨B, e, hB⟩ := ih
    show ∃ B, (if hc_car k hour (c + 1 + j) = true then hc_wl k hour (c + 1 + j) ++ [c + 1 + j] else hc_wl k hour (c + 1 + j)) = _ ∧ _
    by_cases h : hc_car k hour (c + 1 + j) = true
    · refine ⟨B ++ [c + 1 + j], ?_, ?_⟩
      · rw [if_pos h, e, List.append_assoc]; rfl
      · intro x hx
        rcases List.mem_append.mp hx with h1 | h1
        · exact hB x h1
        · rw [List.mem_singleton.mp h1]; omega
    · exact ⟨B, by rw [if_neg h, e], hB⟩
theorem hx_first_get {β : Type} {g : Int32 → Option β} : ∀ (L : List Int32) (b : β), hx_first g L = some b → ∃ x, x ∈ L ∧ g x = some b := by
  intro L
  induction L with
  | nil => intro b h; exact nomatch h
  | cons x L ih =>
    intro b h
    unfold hx_first at h
    cases hx : g x with
    | some p =>
      rw [hx] at h
      exact ⟨x, List.mem_cons_self, hx.trans h⟩
    | none =>
      rw [hx] at h
      obtain ⟨y, hy, e⟩ := ih b h
      exact ⟨y, List.mem_cons_of_mem _ hy, e⟩
theorem hx_sol_mem : ∀ (Ls : List (List Int32)) (u : Int32) (ps : List Int32), hx_sol Ls u = some ps → ∀ (i : Nat) (x : Int32), ps[i]? = some x → ∃ L, Ls[i]? = some L ∧ x ∈ L := by
  intro Ls
  induction Ls with
  | nil =>
    intro u ps h i x hx
    have h2 : some [] = some ps := h
    injection h2 with h3
    rw [← h3] at hx
    exact nomatch hx
  | cons L Ls ih =>
    intro u ps h i x hx
    obtain ⟨y, hy, e⟩ := hx_first_get L ps h
    by_cases hu : y &&& u = 0
    · rw [if_pos hu] at e
      cases hs : hx_sol Ls (u ||| y) with
      | none => rw [hs] at e; exact nomatch e
      | some qs =>
        rw [hs] at e
        have h2 : some (y :: qs) = some ps := e
        injection h2 with h3
        rw [← h3] at hx
        cases i with
        | zero =>
          have h4 : some y = some x := hx
          injection h4 with h5
          exact ⟨L, rfl, by rw [← h5]; exact hy⟩
        | succ i => exact ih _ qs hs i x hx
    · rw [if_neg hu] at e; exact nomatch e
theorem hr_bof {k m : hm_M} {nc nb c t hh : Nat} (C : hr_C m nc nb) (h3 : k 3 = m 3) (h12 : k 12 = m 12) (h13 : k 13 = m 13) (hH : hx_H k m nc) (hd : ∀ c, c < nc → ¬ (m 15 (4 * c + 1) = nI hh ∧ m 15 (4 * c + 3) = nI hh)) (hc : c < nc) (ht : t = 1 ∨ t = 3) (hx : m 15 (4 * c + t) = nI hh) (hl : (hc_wl k (nI hh) nc).length ≤ 90) : hc_bof k nb nc c (nI hh) = hm_sof m (hr_F m nc nb) nc c t := by
  have hcar : hc_car k (nI hh) c = true := by
    unfold hc_car
    rw [decide_eq_true_iff, hH c hc 1 (by decide), hH c hc 3 (by decide)]
    rcases ht with h | h
    · rw [h] at hx; exact Or.inl hx
    · rw [h] at hx; exact Or.inr hx
  have hm0 : ∀ x, x ∈ hc_wl k (nI hh) nc → x < nc := fun x hx => ((hc_wl_mem nc x).mp hx).1
  obtain ⟨B, eB, hB⟩ := hc_wl_split hcar (nc - (c + 1))
  rw [show c + 1 + (nc - (c + 1)) = nc by omega] at eB
  have hA : ¬ c ∈ hc_wl k (nI hh) c := fun z => by have := ((hc_wl_mem c c).mp z).1; omega
  have hB2 : ¬ c ∈ B := fun z => by have := hB c z; omega
  have hkeep : ∀ x, x ∈ hc_wl k (nI hh) nc → hx_need m x = false → hr_F m nc nb x = [nI 0] := fun x hx hP => by
    refine hr_F_0 C (hm0 x hx) ?_
    by_cases hz : m 12 x ≤ 0
    · exact hz
    · exact absurd hP (by unfold hx_need; rw [decide_eq_true hz]; decide)
  have hTm : (hm_tl m (nI hh) (4 * nc)).map (fun x => hr_F m nc nb (x / 4)) = ((hc_wl k (nI hh) nc).filter (hx_need m)).map (hr_F m nc nb) := by
    rw [← hx_takers hH hd nc (Nat.le_refl _), List.map_map]
    rfl
  have hsol := hx_sol_keep (P := hx_need m) (F := hr_F m nc nb) (hc_wl k (nI hh) nc) (nI 0) hkeep
  have hff := hx_ff ((hm_tl m (nI hh) (4 * nc)).map (fun x => hr_F m nc nb (x / 4))) (nI 0)
  rw [hTm, hsol] at hff
  unfold hc_bof hm_sof
  rw [hx, hr_V C h3 h12 h13 (by omega) hm0]
  unfold hm_fs
  rw [hTm]
  cases hs : hx_sol ((hc_wl k (nI hh) nc).map (hr_F m nc nb)) (nI 0) with
  | none =>
    rw [hs] at hff
    cases hf : hm_ff (((hc_wl k (nI hh) nc).filter (hx_need m)).map (hr_F m nc nb)) (nI 0) with
    | none => rfl
    | some qs => rw [hf] at hff; exact nomatch hff
  | some ps =>
    rw [hs] at hff
    cases hf : hm_ff (((hc_wl k (nI hh) nc).filter (hx_need m)).map (hr_F m nc nb)) (nI 0) with
    | none => rw [hf] at hff; exact nomatch hff
    | some qs =>
      rw [hf] at hff
      have e1 : some (hx_pick (((hc_wl k (nI hh) nc).filter (hx_need m)).map (hr_F m nc nb)) qs) = some (hx_keep (hx_need m) (hc_wl k (nI hh) nc) ps) := hff
      injection e1 with e1
      show ps[(hc_wl k (nI hh) c).length]?.getD 0 = hm_pk (hr_F m nc nb) (4 * c + t) (hm_tl m (nI hh) (4 * nc)) qs (nI 0)
      by_cases hn : m 12 c ≤ 0
      · rw [hr_pk0 _ _ _ (fun z => by
          have := ((hm_tl_mem _ _).mp z).2.2.2
          rw [show (4 * c + t) / 4 = c by omega] at this
          exact this hn)]
        cases hp : ps[(hc_wl k (nI hh) c).length]? with
        | none => rfl
        | some x =>
          obtain ⟨L, eL, hxL⟩ := hx_sol_mem _ _ _ hs _ _ hp
          rw [List.getElem?_map, eB, List.getElem?_append_right (Nat.le_refl _), Nat.sub_self] at eL
          have e2 : some (hr_F m nc nb c) = some L := eL
          injection e2 with e2
          rw [← e2, hr_F_0 C hc hn] at hxL
          exact List.mem_singleton.mp hxL
      · have hlen := (hm_ff_len hf).1
        rw [hr_pk _ _ _ (by rw [hlen, ← hTm, List.length_map]) (fun x hx2 => by
          have q := (hm_tl_mem _ _).mp hx2
          constructor
          · intro z; omega
          · intro z
            have hx3 := q.2.1
            have hq := hd c hc
            rcases ht with h | h <;> subst h
            · rcases hx3 with h4 | h4
              · omega
              · exact absurd ⟨hx, by rw [show 4 * c + 3 = x by omega]; exact q.2.2.1⟩ hq
            · rcases hx3 with h4 | h4
              · exact absurd ⟨by rw [show 4 * c + 1 = x by omega]; exact q.2.2.1, hx⟩ hq
              · omega), hTm, e1, hx_takers hH hd nc (Nat.le_refl _), hr_lk_keep (decide_eq_true hn), eB, hr_lk_at _ _ _ _ hA hB2]
        rfl
