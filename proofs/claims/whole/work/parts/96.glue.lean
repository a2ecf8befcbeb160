/-! THE CLAIM OUT OF ONE WALK OF THE LAW'S BODY. Your part is whole_start (and what it stands on); all else here is the same for every law, but numbers. -/
def R_law : String := "HourPromisedLaw"
def lw_P (b : Addr) (xs : List Int32) (args : Array Value) (s : State) : Prop := args = #[.ref b] ∧ s.IntsAt b xs ∧ xs.length ≤ 2560 ∧ (Jvm.Cond.and given_1 narrow_1).before args s = true
def lw_Q (_ : Array Value) (s : State) (o : Outcome) (t : State) : Prop := o = .returned (some (.int 1)) ∧ Framed s o t [] 600000 7302250
def lw_Z (below : List Frame) (a : Array Value) (s : State) : State → Prop := fun t => ∃ o, t.status = .running ∧ Ended t below o ∧ lw_Q a s o t
/-- the law's own end, with 1 on the stack, nothing written that was there before, its room as the claim has it -/
theorem lw_ret {p : Program} {l : Launch} {e : Env} {s : State} {m : MethodId} {below : List Frame} {meth : Method} {c : Code} {b : Nat} (hx : p.tables.exec = Jvm.exec) (hb : c.code = code) (hr : meth.sig.returnType = ret) (hlocks : meth.locks = false) {pc : Nat} {H : Heap} {ls : Array Slot} (hdg : decode code pc = .ok (.ireturn, 1)) : W p l e room_1 s m #[Value.ref b] below meth c H [] 600000 7302250 (lw_Z below #[Value.ref b] s) (F0 m pc ls [.int 1]) := by
  intro T hT X
  obtain ⟨fs, hret, hrun, hended, hW, hframe⟩ := X.leave (v := some (.int 1)) (hlocks := hlocks) (fun h => by rw [hr] at h; cases h)
  have hmeth' : T.vm.method? m = some meth := X.method'
  refine ⟨T.setFrames fs, ?_, .returned (some (.int 1)), hrun, hended, rfl, ⟨_, rfl⟩, hW, hframe⟩
  jvm_step X.here [X.here.top, hx, hb, hdg, hmeth', hr, ret, narrow_b1]
  (try refine ⟨rfl, ?_⟩); (try refine ⟨rfl, ?_⟩)
  first | (intro acts; rw [hret _ acts rfl rfl rfl]) | rw [hret _ _ rfl rfl rfl]
  exact Steps.refl _
/-- what holds at the law's entry: the machine, the code, the tables' words (any of lw_tbl by 'hts w (by decide +kernel)'), the script of L ints xs at the cell b, what the Statement gives of the start (any of its parts by flat_of_before) -/
def lw_At (p : Program) (s : State) (m : MethodId) (meth : Method) (c : Code) (b L : Nat) (xs : Nat → Int32) : Prop :=
  p.tables.exec = Jvm.exec ∧ c.code = code ∧ meth.sig.returnType = ret ∧ c.maxLocals = 4 ∧ s.vm.findClass R_law = some m.cls ∧ (∀ w ∈ lw_tbl, w.before #[Value.ref b] s = true) ∧ va_X b L xs s s.heap ∧ b < s.heap.size ∧ meth.locks = false ∧ (Jvm.Cond.and given_1 narrow_1).before #[Value.ref b] s = true
/-- the heap at the start: the script, the two tables, the empty list's array -/
def hm_h0 (L : Nat) (xs : Nat → Int32) : hm_H := (fun j => match j with
  | 0 => some (.inl (100, L, .inl xs))
  | 1 => some (.inl (100, 3, .inl (fun j => match j with | 0 => 4 | 1 => 3 | _ => 8)))
  | 2 => some (.inl (100, 3, .inl (fun j => match j with | 0 => 0 | 1 => 2 | _ => 3)))
  | 3 => some (.inl (101, 0, .inr (.inr (.inr (.inr (fun _ => none))))))
  | _ => none, 0, 0)
theorem hm_hts_in {args : Array Value} {s : State} (hts : ∀ w ∈ lw_tbl, w.before args s = true) {w : Cond} (h : w ∈ tables_1) : w.before args s = true := hts w (List.mem_append_right _ h)
theorem hm_arrP {s : State} {args : Array Value} {ty : FieldType} (h : (Cond.arrayClass ty).before args s = true) : ∃ cA : ClassId, ArrOfT s cA ty ∧ s.vm.findClass ("[" ++ ty.toString) = some cA := by
  obtain ⟨cA, k, comp, h1, h2, h3⟩ := Cond.arrayClass_spec h
  exact ⟨cA, fun n z => ⟨(fun q hq => by cases hq), k, h2, comp, h3⟩, h1⟩
theorem hm_arrA {s : State} {args : Array Value} {ty : FieldType} (h : (Cond.arrayOver (.array ty)).before args s = true) : ∃ cA : ClassId, ArrOfT s cA (.array ty) ∧ s.vm.findClass ("[" ++ (FieldType.array ty).toString) = some cA := by
  obtain ⟨comp, cA, k, h1, h2, h3, h4⟩ := Cond.arrayOver_specA h
  exact ⟨cA, fun n z => ⟨(fun q hq => by cases hq), k, h2, comp, h3⟩, h4⟩
theorem hm_arrO {s : State} {args : Array Value} {C : String} (h : (Cond.arrayOver (.object C)).before args s = true) : ∃ cA : ClassId, ArrOfT s cA (.object C) ∧ va_RA s cA (.object C) := by
  obtain ⟨comp, cA, k, h1, h2, h3, h4, h5⟩ := Cond.arrayOver_spec h
  exact ⟨cA, fun n z => ⟨(fun q hq => by cases hq), k, h3, comp, h4⟩, k, comp, h3, h4, h1, h5⟩
theorem hm_known {s : State} {args : Array Value} (hts : ∀ w ∈ lw_tbl, w.before args s = true) : ∃ (dC : Nat → ClassId) (dI : Nat → Nat → Nat), ∀ (k : Nat) (q : vw_C), hm_cls[k]? = some q → u_Kn s q.1 q.2.1 q.2.2 (dC k) (dI k) := by
  have h : ∀ k : Nat, ∃ (c : ClassId) (iS : Nat → Nat), ∀ q : vw_C, hm_cls[k]? = some q → u_Kn s q.1 q.2.1 q.2.2 c iS := by
    intro k
    cases hk : hm_cls[k]? with
    | none => exact ⟨0, fun _ => 0, fun q hq => by cases hq⟩
    | some r =>
      have htb : ∀ w ∈ hm_tb, w.before args s = true := fun w hw => hts w (List.mem_filter.mp hw).1
      obtain ⟨c, iS, hKn⟩ := u_known (C := r.1) (T := r.2.1) (N := r.2.2) (n := r.2.2) htb (hm_kin hk) (htb _ (hm_kinst hk).1)
      exact ⟨c, iS, fun q hq => by cases hq; exact hKn⟩
  exact ⟨fun k => (h k).choose, fun k => (h k).choose_spec.choose, fun k => (h k).choose_spec.choose_spec⟩
set_option maxHeartbeats 4000000 in
set_option maxRecDepth 100000 in
/-- THE LAW, from its entry, out of the pure statement -/
theorem hm_start (hpure : ∀ (L : Nat) (xs : Nat → Int32), L ≤ 2560 → ∃ (f : Nat) (hp2 : hm_H), hm_run f 1000 174 0 [.ref 0, .retAddr 0, .retAddr 0, .retAddr 0] [] (hm_h0 L xs) = some (some (.int 1), hp2) ∧ hp2.2.1 ≤ 600000 ∧ hp2.2.2 ≤ 7302250)
    {p : Program} {e : Env} {s : State} {m : MethodId} {below : List Frame} {meth : Method} {c : Code} (l : Launch) {b L : Nat} {xs : Nat → Int32} (hL : L ≤ 2560) (C0 : lw_At p s m meth c b L xs) : W p l e room_1 s m #[Value.ref b] below meth c s.heap [] 0 0 (lw_Z below #[Value.ref b] s) (entryFrame m ([Value.ref b] : List Value).toArray 4) := by
  obtain ⟨hx, hb, hr, hml, hown, hts, hX, hbl, hlocks, hgv⟩ := id C0
  have hw := flat_of_before _ hgv
  have hA : ∀ a : Nat, a < s.heap.size → ¬ (fun q : Nat => s.heap.size ≤ q) a := fun a h => Nat.not_le.mpr h
  obtain ⟨dC, dI, hKc⟩ := hm_known hts
  obtain ⟨cA0, a0, f0⟩ := hm_arrP (hm_hts_in hts (w := .arrayClass .int) (List.mem_of_getElem? (i := 60) (by decide +kernel)))
  obtain ⟨cA1, a1, f1⟩ := hm_arrP (hm_hts_in hts (w := .arrayClass .long) (List.mem_of_getElem? (i := 61) (by decide +kernel)))
  obtain ⟨cA2, a2, f2⟩ := hm_arrP (hm_hts_in hts (w := .arrayClass .boolean) (List.mem_of_getElem? (i := 813) (by decide +kernel)))
  have haoi := hm_hts_in hts (w := .arrayOver (.array .int)) (List.mem_of_getElem? (i := 69) (by decide +kernel))
  have haol := hm_hts_in hts (w := .arrayOver (.array .long)) (List.mem_of_getElem? (i := 35) (by decide +kernel))
  have haoL := hm_hts_in hts (w := .arrayOver (.object "HourPromised$Law")) (List.mem_of_getElem? (i := 119) (by decide +kernel))
  have haoO := hm_hts_in hts (w := .arrayOver (.object "java/lang/Object")) (List.mem_of_getElem? (i := 501) (by decide +kernel))
  obtain ⟨cA3, a3, f3⟩ := hm_arrA haoi
  obtain ⟨cA4, a4, f4⟩ := hm_arrA haol
  obtain ⟨cA5, a5, f5⟩ := hm_arrO haoL
  obtain ⟨cA6, a6, f6⟩ := hm_arrO haoO
  obtain ⟨t1, e1, T1⟩ := va_Tof (N := 3) (f := fun j => Value.int (match j with | 0 => 4 | 1 => 3 | _ => 8)) (A := fun q => s.heap.size ≤ q) (tm := .static "HourPromised" "MOST_OF_KIND" "[I") (ty := .int) (by decide) (hw _ (by decide +kernel)) (va_eqt (hw _ (by decide +kernel))) (fun j hj => by
    match j, hj with
    | 0, _ => exact va_eqt (hw _ (by decide +kernel))
    | 1, _ => exact va_eqt (hw _ (by decide +kernel))
    | 2, _ => exact va_eqt (hw _ (by decide +kernel))
    | j + 3, h => omega) hA
  obtain ⟨t2, e2, T2⟩ := va_Tof (N := 3) (f := fun j => Value.int (match j with | 0 => 0 | 1 => 2 | _ => 3)) (A := fun q => s.heap.size ≤ q) (tm := .static "HourPromised" "ROW_OF_KIND" "[I") (ty := .int) (by decide) (hw _ (by decide +kernel)) (va_eqt (hw _ (by decide +kernel))) (fun j hj => by
    match j, hj with
    | 0, _ => exact va_eqt (hw _ (by decide +kernel))
    | 1, _ => exact va_eqt (hw _ (by decide +kernel))
    | 2, _ => exact va_eqt (hw _ (by decide +kernel))
    | j + 3, h => omega) hA
  obtain ⟨t3, e3, T3⟩ := va_Tof (N := 0) (f := fun _ => Value.null) (A := fun q => s.heap.size ≤ q) (tm := .static "java/util/ArrayList" "DEFAULTCAPACITY_EMPTY_ELEMENTDATA" "[Ljava/lang/Object;") (ty := .object "java/lang/Object") (by decide) (hw _ (by decide +kernel)) (va_eqt (hw _ (by decide +kernel))) (fun j hj => by omega) hA
  have hZ1 := va_Zref (hm_hts_in hts (w := .laysStatic "HourPromised" "MOST_OF_KIND" "[I") (hm_in_mem (by decide +kernel))) (hm_hts_in hts (w := .initialized "HourPromised") (hm_in_mem (by decide +kernel))) e1 hA
  have hZ2 := va_Zref (hm_hts_in hts (w := .laysStatic "HourPromised" "ROW_OF_KIND" "[I") (hm_in_mem (by decide +kernel))) (hm_hts_in hts (w := .initialized "HourPromised") (hm_in_mem (by decide +kernel))) e2 hA
  have hZ3 := va_Zref (hm_hts_in hts (w := .laysStatic "java/util/ArrayList" "DEFAULTCAPACITY_EMPTY_ELEMENTDATA" "[Ljava/lang/Object;") (hm_in_mem (by decide +kernel))) (hm_hts_in hts (w := .initialized "java/util/ArrayList") (hm_in_mem (by decide +kernel))) e3 hA
  obtain ⟨G, hG⟩ : ∃ G : hm_E, G = (s.heap.size, (fun j => match j with | 0 => b | 1 => t1 | 2 => t2 | _ => t3), (dC, dI), (fun j => match j with | 0 => cA0 | 1 => cA1 | 2 => cA2 | 3 => cA3 | 4 => cA4 | 5 => cA5 | _ => cA6)) := ⟨_, rfl⟩
  have hG1 : G.1 = s.heap.size := by rw [hG]
  have hK : va_K G.2.2.1 hm_cls (hm_tys G) s := by
    rw [hG]
    refine ⟨hKc, fun k q hk => ?_⟩
    match k, hk with
    | 0, hk => cases hk; exact ⟨a0, f0⟩
    | 1, hk => cases hk; exact ⟨a1, f1⟩
    | 2, hk => cases hk; exact ⟨a2, f2⟩
    | 3, hk => cases hk; exact ⟨a3, f3⟩
    | 4, hk => cases hk; exact ⟨a4, f4⟩
    | 5, hk => cases hk; exact ⟨a5, f5⟩
    | 6, hk => cases hk; exact ⟨a6, f6⟩
    | k + 7, hk => cases hk
  have hT0 : va_T .int b L (fun j => .int (xs j)) (fun q => s.heap.size ≤ q) s s.heap := by
    obtain ⟨scr, g1, g2, g3, g4, g5⟩ := hX
    exact ⟨scr, g1, g2, g3, by omega, by rw [g4], g5, Nat.not_le.mpr hbl⟩
  have hR : hm_R G s (hm_h0 L xs) s.heap := by
    refine ⟨hK, by rw [hG1]; rfl, fun i e9 hi => ?_, fun j h0 h4 => ?_⟩
    · match i, hi with
      | 0, hi =>
        cases hi
        refine Or.inr (Or.inl ⟨rfl, by decide, xs, rfl, ?_⟩)
        rw [hG]
        exact hT0
      | 1, hi =>
        cases hi
        refine Or.inr (Or.inl ⟨rfl, by decide, _, rfl, ?_⟩)
        rw [hG]
        exact T1
      | 2, hi =>
        cases hi
        refine Or.inr (Or.inl ⟨rfl, by decide, _, rfl, ?_⟩)
        rw [hG]
        exact T2
      | 3, hi =>
        cases hi
        refine Or.inr (Or.inr ⟨rfl, by decide, rfl, ?_⟩)
        rw [hG]
        exact T3
      | i + 4, hi => cases hi
    · rw [hG]
      match j, h0, h4 with
      | 1, _, _ => exact hZ1
      | 2, _, _ => exact hZ2
      | 3, _, _ => exact hZ3
      | j + 4, _, h4 => omega
  have hNW : hm_NW s := by
    refine ⟨fun w hw hn => ?_, haoL, haoO, haoi, haol, va_Mi.of (hw (.isRef (.mirror "[Ljava/lang/Object;")) (by decide +kernel)), va_Dc.of (hm_hts_in hts (w := .declares ⟨"java/lang/Object", "getClass", "()Ljava/lang/Class;"⟩) (hm_in_mem (by decide +kernel)))⟩
    have h1 := hm_hts_in hts hw
    cases w <;> first | (exact va_Nw.of rfl h1) | (exact absurd hn (by simp [hm_isN]))
  have C1 : hm_Cx p s m #[Value.ref b] meth c (x, code, maxLocals, ret, 19, 1, 0) := ⟨hx, hb, hml, hr, hlocks, hown, fun z => absurd z (by decide +kernel), rfl, fun w hw => hts w (List.mem_filter.mp hw).1, hNW⟩
  obtain ⟨f, hp2, hrun, hc1, hc2⟩ := hpure L xs hL
  have hent := lv_entry ([.ref b]) (n := 4) (Nat.le_of_ble_eq_true rfl)
  rw [lg_entry_eq]
  generalize (lg_sl ([.ref b]) ++ List.replicate (4 - (lg_sl ([.ref b])).length) Slot.unset).toArray = la at hent ⊢
  have hLo : hm_L G la [.ref 0, .retAddr 0, .retAddr 0, .retAddr 0] := by
    have hb0 : hm_v G (.ref 0) = .ref b := by rw [hG]; rfl
    exact hm_entL G (as := [.ref 0]) (n := 4) (Nat.le_of_ble_eq_true rfl) (by
      show lv_has la 4 (lv_args 0 [hm_v G (.ref 0)])
      rw [hb0]
      exact hent)
  have key := hm_sound l G ⟨0, trivial⟩ f 1000 174 0 _ [] (hm_h0 L xs) hp2 (some (.int 1)) _ hrun m_174 p e room_1 s m #[Value.ref b] below meth c (lw_Z below #[Value.ref b] s) 0 0 C1 (Nat.zero_le _) (Nat.zero_le _) hc1 hc2 (by decide) (by decide) (by
    intro pc2 ls2 st2 i n hd hn hret H locs la2 hR2 hL2 hz2 hf2
    unfold hm_ret at hret
    split at hret
    · cases hret
    · exact absurd (show ret = some .int by assumption) (by decide)
    · obtain rfl : n = 1 := hm_lnE hn rfl (by decide)
      split at hret
      next h01 =>
        cases hret
        refine va_forget (fun q hq => by rw [← hG1]; exact hf2 q hq) (W.widen (k := 600000) (n := 7302250) (by show hp2.2.1 - 0 ≤ 600000; omega) (by show hp2.2.2 - 0 ≤ 7302250; omega) ?_)
        exact lw_ret hx hb hr hlocks hd
      next => cases hret
    · cases hret
    · cases hret
    · cases hret
    · cases hret
    · cases hret
    · cases hret)
  exact key s.heap [] la hR hLo (by rw [hml]; exact hent.1) (fun q hq => by cases hq)
