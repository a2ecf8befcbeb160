/-! ONE STEP, instructions that read the heap and the tables -/
def hm_isN (w : Cond) : Bool := match w with
  | .fieldLinkNest _ _ _ _ _ _ => true
  | .methodLinkNest _ _ _ _ => true
  | .castable _ _ => true
  | _ => false
def hm_tb : List Cond := lw_tbl.filter goodWord
def hm_NW (U : State) : Prop := (∀ w ∈ tables_1, hm_isN w = true → va_Nw w U) ∧ va_AO "HourPromised$Law" U ∧ va_AO "java/lang/Object" U ∧ (Cond.arrayOver (.array .int)).before #[] U = true ∧ (Cond.arrayOver (.array .long)).before #[] U = true ∧ (∃ mi : Nat, va_Mi "[Ljava/lang/Object;" mi U) ∧ va_Dc U
def hm_Cx (p : Program) (s : State) (m : MethodId) (args : Array Value) (meth : Method) (c : Code) (q : hm_Q) : Prop :=
  p.tables.exec = Jvm.exec ∧ c.code = q.2.1 ∧ c.maxLocals = q.2.2.1 ∧ meth.sig.returnType = q.2.2.2.1 ∧ meth.locks = false ∧ s.vm.findClass q.1.cls = some m.cls ∧ (q.1.name = "<init>" → meth.name = "<init>") ∧ hm_own[q.2.2.2.2.1]? = some q.1.cls ∧ (∀ w ∈ hm_tb, w.before args s = true) ∧ hm_NW s
theorem hm_tb_of {w : Cond} (h : w ∈ tables_1) (hg : goodWord w = true) : w ∈ hm_tb := List.mem_filter.mpr ⟨List.mem_append_right _ h, hg⟩
theorem hm_lk {β : Type} : ∀ {l : List ((Nat × Nat) × β)} {a : Nat × Nat} {b : β}, l.lookup a = some b → (a, b) ∈ l
  | [], _, _, h => by cases h
  | (x, y) :: l, a, b, h => by
    rw [List.lookup_cons] at h
    split at h
    next hc =>
      cases h
      rw [eq_of_beq hc]
      exact List.mem_cons_self
    next => exact List.mem_cons_of_mem _ (hm_lk h)
theorem hm_one {D : va_G} {cl : List vw_C} {x : Nat × va_E} {H : Heap} (h : va_at D cl x H) : va_P D cl [x] H := by
  intro k q hk
  cases k with
  | zero => cases hk; exact h
  | succ k => cases hk
theorem hm_clsE {P : Nat → vw_C → Prop} (h0 : ∀ k : Nat, k < 10 → ∀ r, hm_cls[k]? = some r → P k r) : ∀ (k : Nat) (r : vw_C), hm_cls[k]? = some r → P k r := by
  intro k r h
  have hk : k < 10 := (List.getElem?_eq_some_iff.mp h).1
  exact h0 k hk r h
theorem hm_lt10 {P : Nat → Prop} (h : P 0 ∧ P 1 ∧ P 2 ∧ P 3 ∧ P 4 ∧ P 5 ∧ P 6 ∧ P 7 ∧ P 8 ∧ P 9) (k : Nat) (hk : k < 10) : P k := by
  obtain ⟨h0, h1, h2, h3, h4, h5, h6, h7, h8, h9⟩ := h
  match k, hk with
  | 0, _ => exact h0
  | 1, _ => exact h1
  | 2, _ => exact h2
  | 3, _ => exact h3
  | 4, _ => exact h4
  | 5, _ => exact h5
  | 6, _ => exact h6
  | 7, _ => exact h7
  | 8, _ => exact h8
  | 9, _ => exact h9
  | k + 10, hk => omega
theorem hm_tyok : ∀ (ci : Nat) (r : vw_C), hm_cls[ci]? = some r → ∀ k, k < r.2.2 → parseFieldDescriptor (r.2.1 k).2.2.1 = some (hm_fty ci k) :=
  hm_clsE (hm_lt10 ⟨fun r h => by cases h; exact hm_ty0, fun r h => by cases h; exact hm_ty1, fun r h => by cases h; exact hm_ty2, fun r h => by cases h; exact hm_ty3, fun r h => by cases h; exact hm_ty4, fun r h => by cases h; exact hm_ty5, fun r h => by cases h; exact hm_ty6, fun r h => by cases h; exact hm_ty7, fun r h => by cases h; exact hm_ty8, fun r h => by cases h; exact hm_ty9⟩)
theorem hm_nmok : ∀ (ci : Nat) (r : vw_C), hm_cls[ci]? = some r → ∀ a, a < r.2.2 → ∀ b, b < r.2.2 → a ≠ b → (r.2.1 a).2.1 ≠ (r.2.1 b).2.1 :=
  hm_clsE (hm_lt10 ⟨fun r h => by cases h; exact hm_n0, fun r h => by cases h; exact hm_n1, fun r h => by cases h; exact hm_n2, fun r h => by cases h; exact hm_n3, fun r h => by cases h; exact hm_n4, fun r h => by cases h; exact hm_n5, fun r h => by cases h; exact hm_n6, fun r h => by cases h; exact hm_n7, fun r h => by cases h; exact hm_n8, fun r h => by cases h; exact hm_n9⟩)
theorem hm_good_lay (C : String) (T : u_T) (k : Nat) : goodWord (u_lay C T k) = true := by
  unfold u_lay
  split <;> rfl
theorem hm_kin {ci : Nat} {r : vw_C} (h : hm_cls[ci]? = some r) : ∀ w ∈ u_ws r.1 r.2.1 r.2.2, w ∈ hm_tb := by
  intro w hw
  have h1 := List.all_eq_true.mp hm_kok r (List.mem_of_getElem? h)
  unfold hm_kchk at h1
  simp only [Bool.and_eq_true] at h1
  have h2 := hm_in_mem (List.all_eq_true.mp h1.1.1 w hw)
  obtain ⟨k, -, rfl⟩ := List.mem_map.mp hw
  exact hm_tb_of h2 (hm_good_lay _ _ _)
theorem hm_kinst {ci : Nat} {r : vw_C} (h : hm_cls[ci]? = some r) : Cond.instantiable r.1 r.2.2 ∈ hm_tb ∧ Cond.initialized r.1 ∈ hm_tb := by
  have h1 := List.all_eq_true.mp hm_kok r (List.mem_of_getElem? h)
  unfold hm_kchk at h1
  simp only [Bool.and_eq_true] at h1
  exact ⟨hm_tb_of (hm_in_mem h1.1.2) rfl, hm_tb_of (hm_in_mem h1.2) rfl⟩
section HMH
variable {p : Program} {l : Launch} {e : Env} {R : Room} {s : State} {m : MethodId} {args : Array Value} {below : List Frame} {meth : Method} {c : Code} {Q : State → Prop}
variable {pc n n0 s0 : Nat} {i : Instr} {ls st : List Value} {hp : hm_H} {σ : hm_S} {G : hm_E} {q : hm_Q}
/-- a field by the pool's entry: the class of its objects, and the word that links it -/
theorem hm_fld (C0 : hm_Cx p s m args meth c q) {ix ci k md w : Nat} (h : hm_ftab.lookup (q.2.2.2.2.1, ix) = some (ci, k, md, w)) : ∃ r : vw_C, hm_cls[ci]? = some r ∧ k < r.2.2 ∧
    ((Cond.fieldLink q.1.cls ix (r.2.1 k).1 (r.2.1 k).2.1 (r.2.1 k).2.2.1).before args s = true ∨ (Cond.fieldLinkNest q.1.cls ix (r.2.1 k).1 (r.2.1 k).2.1 (r.2.1 k).2.2.1 "HourPromised").before args s = true ∨
      ((Cond.fieldLink q.1.cls ix "java/util/ArrayList" (r.2.1 k).2.1 (r.2.1 k).2.2.1).before args s = true ∧ (r.2.1 k).1 = "java/util/AbstractList" ∧ (r.2.1 k).2.1 = "modCount" ∧ (r.2.1 k).2.2.1 = "I")) := by
  obtain ⟨-, -, -, -, -, -, -, hw0, hts, hNW⟩ := C0
  have h1 := List.all_eq_true.mp hm_fok _ (hm_lk h)
  unfold hm_fchk at h1
  dsimp only at h1
  rw [hw0] at h1
  cases hc : hm_cls[ci]? with
  | none => rw [hc] at h1; cases h1
  | some r =>
    rw [hc] at h1
    obtain ⟨C, T, N⟩ := r
    simp only [Bool.and_eq_true, decide_eq_true_eq] at h1
    refine ⟨_, rfl, h1.1, ?_⟩
    match md, h1.2 with
    | 0, h2 => exact Or.inl (hts _ (hm_tb_of (hm_at_mem h2) rfl))
    | 1, h2 => exact Or.inr (Or.inl (va_Nw.use rfl (hNW.1 _ (hm_at_mem h2) rfl)))
    | md + 2, h2 =>
      simp only [Bool.and_eq_true, decide_eq_true_eq] at h2
      exact Or.inr (Or.inr ⟨hts _ (hm_tb_of (hm_at_mem h2.1.1.1) rfl), h2.1.1.2, h2.1.2, h2.2⟩)
theorem hm_nlk (C0 : hm_Cx p s m args meth c q) {ix ci w : Nat} (h : hm_ntab.lookup (q.2.2.2.2.1, ix) = some (ci, w)) : (Cond.classLink q.1.cls ix (hm_nname ci)).before args s = true := by
  obtain ⟨-, -, -, -, -, -, -, hw0, hts, -⟩ := C0
  have h1 := List.all_eq_true.mp hm_nok _ (hm_lk h)
  unfold hm_nchk at h1
  dsimp only at h1
  rw [hw0] at h1
  simp only [Bool.and_eq_true] at h1
  exact hts _ (hm_tb_of (hm_at_mem h1.1) rfl)
theorem hm_nnm {ci : Nat} {r : vw_C} (h : hm_cls[ci]? = some r) : hm_nname ci = r.1 := by
  have hk : ci < 10 := (List.getElem?_eq_some_iff.mp h).1
  exact hm_lt10 (P := fun k => ∀ r, hm_cls[k]? = some r → hm_nname k = r.1) ⟨fun r h => by cases h; rfl, fun r h => by cases h; rfl, fun r h => by cases h; rfl, fun r h => by cases h; rfl, fun r h => by cases h; rfl, fun r h => by cases h; rfl, fun r h => by cases h; rfl, fun r h => by cases h; rfl, fun r h => by cases h; rfl, fun r h => by cases h; rfl⟩ ci hk r h
theorem hm_asame (C0 : hm_Cx p s m args meth c q) {r : vw_C} {k : Nat} (h1 : (r.2.1 k).1 = "java/util/AbstractList") (h2 : (r.2.1 k).2.1 = "modCount") (h3 : (r.2.1 k).2.2.1 = "I") : ∀ x, s.fieldFound? (r.2.1 k).1 (r.2.1 k).2.1 (r.2.1 k).2.2.1 = some x → s.fieldFound? "java/util/ArrayList" (r.2.1 k).2.1 (r.2.1 k).2.2.1 = some x := by
  obtain ⟨-, -, -, -, -, -, -, -, hts, -⟩ := C0
  intro x hx
  rw [h1, h2, h3] at hx
  rw [h2, h3]
  exact u_same (hts (.sameField "java/util/ArrayList" "java/util/AbstractList" "modCount" "I") (hm_tb_of (List.mem_of_getElem? (i := 155) (by decide +kernel)) rfl)) x hx
theorem hm_rmap (fs : List Value) (k : Nat) {v : Value} (h : fs[k]? = some v) : (fs.map (hm_v G))[k]? = some (hm_v G v) := by
  rw [List.getElem?_map, h]
  rfl
theorem hm_ty_at {t : Nat} (h : t < 7) : ∃ ty, (hm_tys G)[t]? = some (G.2.2.2 t, ty) := by
  match t, h with
  | 0, _ => exact ⟨_, rfl⟩
  | 1, _ => exact ⟨_, rfl⟩
  | 2, _ => exact ⟨_, rfl⟩
  | 3, _ => exact ⟨_, rfl⟩
  | 4, _ => exact ⟨_, rfl⟩
  | 5, _ => exact ⟨_, rfl⟩
  | 6, _ => exact ⟨_, rfl⟩
  | t + 7, h => omega
theorem hm_a_fst (x : vp_A) : (hm_a G x).1 = x.1 := by
  obtain ⟨n, f | f | f | f | f⟩ := x <;> rfl
theorem hm_rf (r : Option Nat) : va_rf (r.map (hm_rho G)) = hm_v G (va_rf r) := by cases r <;> rfl
end HMH
