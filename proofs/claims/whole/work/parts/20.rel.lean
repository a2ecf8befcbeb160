/-! the abstract heap and locals in the machine's own -/
abbrev hm_E : Type := Nat × (Nat → Nat) × va_G × (Nat → ClassId)
def hm_rho (G : hm_E) (i : Nat) : Nat := if i < 4 then G.2.1 i else G.1 + (i - 4)
def hm_v (G : hm_E) (v : Value) : Value := match v with
  | .ref a => .ref (hm_rho G a)
  | v => v
def hm_a (G : hm_E) (x : vp_A) : vp_A := match x with
  | (n, .inr (.inr (.inr (.inr f)))) => (n, .inr (.inr (.inr (.inr (fun j => (f j).map (hm_rho G))))))
  | x => x
def hm_tys (G : hm_E) : List (ClassId × FieldType) := [(G.2.2.2 0, .int), (G.2.2.2 1, .long), (G.2.2.2 2, .boolean), (G.2.2.2 3, .array .int), (G.2.2.2 4, .array .long), (G.2.2.2 5, .object "HourPromised$Law"), (G.2.2.2 6, .object "java/lang/Object")]
def hm_cell (G : hm_E) (U : State) (H : Heap) (i : Nat) (e : va_E) : Prop := match e with
  | .inr (ci, fs) => 4 ≤ i ∧ va_at G.2.2.1 hm_cls (hm_rho G i, .inr (ci, fs.map (hm_v G))) H
  | .inl (t, x) => (t < 7 ∧ 4 ≤ i ∧ H[hm_rho G i]? = some (vp_cell (G.2.2.2 t) (hm_a G x))) ∨
    (t = 100 ∧ i < 4 ∧ ∃ f : Nat → Int32, x.2 = .inl f ∧ va_T .int (hm_rho G i) x.1 (fun j => .int (f j)) (fun q => G.1 ≤ q) U H) ∨
    (t = 101 ∧ i < 4 ∧ x.1 = 0 ∧ va_T (.object "java/lang/Object") (hm_rho G i) 0 (fun _ => .null) (fun q => G.1 ≤ q) U H)
def hm_R (G : hm_E) (U : State) (hp : hm_H) (H : Heap) : Prop :=
  va_K G.2.2.1 hm_cls (hm_tys G) U ∧ H.size = G.1 + hp.2.1 ∧ (∀ (i : Nat) (e : va_E), hp.1 i = some e → hm_cell G U H i e) ∧ ∀ j : Nat, 0 < j → j < 4 → va_Z (hm_sname j).1 (hm_sname j).2.1 (hm_sname j).2.2 (.ref (G.2.1 j)) (fun q => G.1 ≤ q) U H
theorem hm_rho_new {G : hm_E} {i : Nat} (h : 4 ≤ i) : hm_rho G i = G.1 + (i - 4) := if_neg (by omega)
theorem hm_rho_old {G : hm_E} {i : Nat} (h : i < 4) : hm_rho G i = G.2.1 i := if_pos h
theorem hm_v_cat (G : hm_E) (v : Value) : (hm_v G v).category = v.category := by cases v <;> rfl
theorem hm_cell.kept {G : hm_E} {U : State} {H H1 : Heap} {i : Nat} {e : va_E} (h : hm_cell G U H i e) (hq : H1[hm_rho G i]? = H[hm_rho G i]?) : hm_cell G U H1 i e := by
  cases e with
  | inr o => exact ⟨h.1, h.2.kept hq⟩
  | inl a =>
    rcases h with ⟨h1, h2, h3⟩ | ⟨h1, h2, f, h3, h4⟩ | ⟨h1, h2, h3, h4⟩
    · exact Or.inl ⟨h1, h2, hq.trans h3⟩
    · obtain ⟨cell, g1, g2⟩ := h4
      exact Or.inr (Or.inl ⟨h1, h2, f, h3, cell, hq.trans g1, g2⟩)
    · obtain ⟨cell, g1, g2⟩ := h4
      exact Or.inr (Or.inr ⟨h1, h2, h3, cell, hq.trans g1, g2⟩)
theorem hm_cell.lt {G : hm_E} {U : State} {H : Heap} {i : Nat} {e : va_E} (h : hm_cell G U H i e) : hm_rho G i < H.size := by
  cases e with
  | inr o => exact h.2.lt
  | inl a =>
    rcases h with ⟨h1, h2, h3⟩ | ⟨h1, h2, f, h3, cell, h4, -⟩ | ⟨h1, h2, h3, cell, h4, -⟩
    · exact (Array.getElem?_eq_some_iff.mp h3).1
    · exact (Array.getElem?_eq_some_iff.mp h4).1
    · exact (Array.getElem?_eq_some_iff.mp h4).1
theorem hm_cell.side {G : hm_E} {U : State} {H : Heap} {i : Nat} {e : va_E} (h : hm_cell G U H i e) : 4 ≤ i ∨ hm_rho G i < G.1 := by
  cases e with
  | inr o => exact Or.inl h.1
  | inl a =>
    rcases h with ⟨h1, h2, h3⟩ | ⟨h1, h2, f, h3, cell, g⟩ | ⟨h1, h2, h3, cell, g⟩
    · exact Or.inl h2
    · exact Or.inr (Nat.not_le.mp g.2.2.2.2.2.2)
    · exact Or.inr (Nat.not_le.mp g.2.2.2.2.2.2)
theorem hm_cell.ne {G : hm_E} {U : State} {H : Heap} {i j : Nat} {e : va_E} (h : hm_cell G U H i e) (hj : 4 ≤ j) (hij : i ≠ j) : hm_rho G i ≠ hm_rho G j := by
  rw [hm_rho_new hj]
  rcases h.side with h | h
  · rw [hm_rho_new h]
    omega
  · omega
theorem hm_cell.moved {G : hm_E} {u U : State} {H : Heap} {i : Nat} {e : va_E} (hvm : u.vm.Alike U.vm) (h : hm_cell G u H i e) : hm_cell G U H i e := by
  cases e with
  | inr o => exact h
  | inl a =>
    rcases h with h | ⟨h1, h2, f, h3, h4⟩ | ⟨h1, h2, h3, h4⟩
    · exact Or.inl h
    · exact Or.inr (Or.inl ⟨h1, h2, f, h3, va_T.moved hvm h4⟩)
    · exact Or.inr (Or.inr ⟨h1, h2, h3, va_T.moved hvm h4⟩)
theorem hm_R.moved {G : hm_E} {u U : State} {hp : hm_H} {H : Heap} (hvm : u.vm.Alike U.vm) (h : hm_R G u hp H) : hm_R G U hp H :=
  ⟨va_K.moved hvm h.1, h.2.1, fun i e hi => (h.2.2.1 i e hi).moved hvm, fun j h0 h4 => va_Z.moved hvm (h.2.2.2 j h0 h4)⟩
theorem hm_R.set {G : hm_E} {U : State} {hp : hm_H} {H H1 : Heap} {i : Nat} {e : va_E} (h : hm_R G U hp H) (hi : 4 ≤ i) (hz : H1.size = H.size) (ho : ∀ q : Nat, q ≠ hm_rho G i → H1[q]? = H[q]?) (hc : hm_cell G U H1 i e) : hm_R G U (hm_set hp i e) H1 := by
  refine ⟨h.1, hz.trans h.2.1, fun j x hj => ?_, fun j h0 h4 => (h.2.2.2 j h0 h4).kept fun a _ hA => ho a ?_⟩
  · by_cases hji : j = i
    · subst hji
      have : some e = some x := by simpa [hm_set, hm_up] using hj
      cases this
      exact hc
    · have hj2 : hp.1 j = some x := by simpa [hm_set, hm_up, hji] using hj
      exact (h.2.2.1 j x hj2).kept (ho _ ((h.2.2.1 j x hj2).ne hi hji))
  · rw [hm_rho_new hi]
    intro q
    exact hA (by rw [q]; exact Nat.le_add_right _ _)
theorem hm_R.push {G : hm_E} {U : State} {hp : hm_H} {H H1 : Heap} {n : Nat} {e : va_E} (h : hm_R G U hp H) (hz : H1.size = H.size + 1) (ho : ∀ q : Nat, q < H.size → H1[q]? = H[q]?) (hc : hm_cell G U H1 (hp.2.1 + 4) e) : hm_R G U (hm_push hp e n) H1 := by
  refine ⟨h.1, by rw [hz, h.2.1]; rfl, fun j x hj => ?_, fun j h0 h4 => (h.2.2.2 j h0 h4).kept fun a ha _ => ho a ha⟩
  by_cases hji : j = hp.2.1 + 4
  · subst hji
    have : some e = some x := by simpa [hm_push, hm_up] using hj
    cases this
    exact hc
  · have hj2 : hp.1 j = some x := by simpa [hm_push, hm_up, hji] using hj
    exact (h.2.2.1 j x hj2).kept (ho _ (h.2.2.1 j x hj2).lt)
/-! locals -/
def hm_lq (G : hm_E) (i : Nat) (o : Option Value) : Option (Nat × Value) := match o with
  | some (.retAddr _) => none
  | some v => some (i, hm_v G v)
  | none => none
def hm_ll (G : hm_E) (ls : List Value) : List (Nat × Value) := (List.range ls.length).filterMap fun i => hm_lq G i ls[i]?
theorem hm_ll_mem {G : hm_E} {ls : List Value} {q : Nat × Value} (h : q ∈ hm_ll G ls) : ∃ v, ls[q.1]? = some v ∧ q.2 = hm_v G v := by
  obtain ⟨i, -, hi⟩ := List.mem_filterMap.mp h
  cases hl : ls[i]? with
  | none => rw [hl] at hi; cases hi
  | some v =>
    rw [hl] at hi
    cases v <;> first | (cases hi; done) | (cases hi; exact ⟨_, hl, rfl⟩)
theorem hm_ll_in {G : hm_E} {ls : List Value} {i : Nat} {v : Value} (h : ls[i]? = some v) (hv : ∀ n, v ≠ .retAddr n) : (i, hm_v G v) ∈ hm_ll G ls := by
  refine List.mem_filterMap.mpr ⟨i, List.mem_range.mpr (List.getElem?_eq_some_iff.mp h).1, ?_⟩
  rw [h]
  cases v <;> first | rfl | exact absurd rfl (hv _)
def hm_L (G : hm_E) (la : Array Slot) (ls : List Value) : Prop := lv_has la ls.length (hm_ll G ls)
theorem hm_L.get {G : hm_E} {la : Array Slot} {ls : List Value} (h : hm_L G la ls) {i : Nat} {v : Value} (hi : ls[i]? = some v) (hv : ∀ n, v ≠ .retAddr n) : la[i]? = some (.val (hm_v G v)) := h.2.2 (i, hm_v G v) (hm_ll_in hi hv)
theorem hm_narrow {ls : List Value} {i : Nat} (h : hm_wide ls i = false) {j : Nat} {v : Value} (hj : ls[j]? = some v) (hji : j + 1 = i) : ¬ v.category = 2 := by
  subst hji
  intro hc
  simp [hm_wide, hj, hc] at h
theorem hm_L.st1 {G : hm_E} {la : Array Slot} {ls ls2 : List Value} {i : Nat} {v : Value} (hs : hm_st1 ls i v = some ls2) (h : lv_has la ls.length ((i, hm_v G v) :: (hm_ll G ls).filter (fun q => !(q.1 == i) && !(q.1 + 1 == i && q.2.category == 2)))) : hm_L G la ls2 := by
  unfold hm_st1 at hs
  split at hs
  next hc =>
    cases hs
    obtain ⟨hi, hw⟩ := hc
    refine ⟨by rw [List.length_set]; exact h.1, h.2.1, fun q hq => ?_⟩
    obtain ⟨w, hw1, hw2⟩ := hm_ll_mem hq
    by_cases hqi : q.1 = i
    · rw [hqi, List.getElem?_set_self hi] at hw1
      cases hw1
      have := h.2.2 (i, hm_v G v) List.mem_cons_self
      rw [hqi, hw2]
      exact this
    · rw [List.getElem?_set_ne (fun z => hqi z.symm)] at hw1
      have hq2 : q ∈ hm_ll G ls := by
        have hr : ∀ n, w ≠ .retAddr n := by
          intro n hn
          subst hn
          obtain ⟨k, -, hk⟩ := List.mem_filterMap.mp hq
          cases hl : (ls.set i v)[k]? with
          | none => rw [hl] at hk; cases hk
          | some u =>
            rw [hl] at hk
            cases u <;> first | (cases hk; done) | (cases hk; cases hw2)
        have := hm_ll_in (G := G) hw1 hr
        rw [← hw2] at this
        exact this
      refine h.2.2 q (List.mem_cons_of_mem _ (List.mem_filter.mpr ⟨hq2, ?_⟩))
      simp only [Bool.and_eq_true, Bool.not_eq_true', beq_eq_false_iff_ne, ne_eq, Bool.and_eq_false_iff]
      refine ⟨hqi, ?_⟩
      by_cases hj : q.1 + 1 = i
      · right
        rw [hw2, hm_v_cat]
        exact hm_narrow hw hw1 hj
      · left
        exact hj
  next => cases hs
theorem hm_L.st2 {G : hm_E} {la : Array Slot} {ls ls2 : List Value} {i : Nat} {v : Value} (hs : hm_st2 ls i v = some ls2) (h : lv_has la ls.length ((i, hm_v G v) :: (hm_ll G ls).filter (fun q => !(q.1 == i) && (!(q.1 == i + 1) && !(q.1 + 1 == i && q.2.category == 2))))) : hm_L G la ls2 := by
  unfold hm_st2 at hs
  split at hs
  next hc =>
    cases hs
    obtain ⟨hi, hw⟩ := hc
    refine ⟨by rw [List.length_set, List.length_set]; exact h.1, h.2.1, fun q hq => ?_⟩
    obtain ⟨k, -, hk⟩ := List.mem_filterMap.mp hq
    cases hl : ((ls.set i v).set (i + 1) (.retAddr 0))[k]? with
    | none => rw [hl] at hk; cases hk
    | some w =>
      have hkq : q = (k, hm_v G w) ∧ ∀ n, w ≠ .retAddr n := by
        rw [hl] at hk
        cases w <;> first | (cases hk; done) | (cases hk; exact ⟨rfl, fun n hn => by cases hn⟩)
      obtain ⟨hq2, hr⟩ := hkq
      subst hq2
      by_cases hk1 : k = i + 1
      · subst hk1
        rw [List.getElem?_set_self (by rw [List.length_set]; exact hi)] at hl
        cases hl
        exact absurd rfl (hr 0)
      · rw [List.getElem?_set_ne (fun z => hk1 z.symm)] at hl
        by_cases hki : k = i
        · subst hki
          rw [List.getElem?_set_self (by omega)] at hl
          cases hl
          exact h.2.2 (k, hm_v G v) List.mem_cons_self
        · rw [List.getElem?_set_ne (fun z => hki z.symm)] at hl
          refine h.2.2 (k, hm_v G w) (List.mem_cons_of_mem _ (List.mem_filter.mpr ⟨hm_ll_in hl hr, ?_⟩))
          simp only [Bool.and_eq_true, Bool.not_eq_true', beq_eq_false_iff_ne, ne_eq, Bool.and_eq_false_iff]
          refine ⟨hki, hk1, ?_⟩
          by_cases hj : k + 1 = i
          · right
            rw [hm_v_cat]
            exact hm_narrow hw hl hj
          · left
            exact hj
  next => cases hs
