/-! what the tables of part 01 rest on: each row's words stand in tables_1 (or lw_tbl), decided by the kernel -/
def hm_in (w : Cond) : Bool := tables_1.any (fun u => decide (u = w))
theorem hm_in_mem {w : Cond} (h : hm_in w = true) : w ∈ tables_1 := by
  obtain ⟨u, hu, he⟩ := List.any_eq_true.mp h
  rw [← of_decide_eq_true he]
  exact hu
def hm_at (i : Nat) (w : Cond) : Bool := decide (tables_1[i]? = some w)
theorem hm_at_mem {i : Nat} {w : Cond} (h : hm_at i w = true) : w ∈ tables_1 := List.mem_of_getElem? (of_decide_eq_true h)
def hm_fchk (q : (Nat × Nat) × (Nat × Nat × Nat × Nat)) : Bool := match hm_own[q.1.1]?, hm_cls[q.2.1]? with
  | some own, some (_, T, N) => decide (q.2.2.1 < N) && (match q.2.2.2.1 with
    | 0 => hm_at q.2.2.2.2 (.fieldLink own q.1.2 (T q.2.2.1).1 (T q.2.2.1).2.1 (T q.2.2.1).2.2.1)
    | 1 => hm_at q.2.2.2.2 (.fieldLinkNest own q.1.2 (T q.2.2.1).1 (T q.2.2.1).2.1 (T q.2.2.1).2.2.1 "HourPromised")
    | _ => hm_at q.2.2.2.2 (.fieldLink own q.1.2 "java/util/ArrayList" (T q.2.2.1).2.1 (T q.2.2.1).2.2.1) && decide ((T q.2.2.1).1 = "java/util/AbstractList") && decide ((T q.2.2.1).2.1 = "modCount") && decide ((T q.2.2.1).2.2.1 = "I"))
  | _, _ => false
theorem hm_fok : hm_ftab.all hm_fchk = true := by decide +kernel
def hm_sname : Nat → String × String × String
  | 1 => ("HourPromised", "MOST_OF_KIND", "[I")
  | 2 => ("HourPromised", "ROW_OF_KIND", "[I")
  | _ => ("java/util/ArrayList", "DEFAULTCAPACITY_EMPTY_ELEMENTDATA", "[Ljava/lang/Object;")
def hm_schk (q : (Nat × Nat) × (Nat × Nat)) : Bool := match hm_own[q.1.1]? with
  | some own => decide (0 < q.2.1 ∧ q.2.1 < 4) && hm_at q.2.2 (.fieldLink own q.1.2 (hm_sname q.2.1).1 (hm_sname q.2.1).2.1 (hm_sname q.2.1).2.2)
  | none => false
theorem hm_sok : hm_stab.all hm_schk = true := by decide +kernel
def hm_nmH (s : String) : Bool := decide (s ≠ "java/lang/invoke/MethodHandle") && decide (s ≠ "java/lang/invoke/VarHandle")
/-- a method's own words -/
def hm_mchk (q : MethodName × ByteArray × Nat × Option FieldType × Nat × Nat × Nat) (w : Nat × Nat × Nat × Nat) : Bool := match q with
  | (y, _, mL, ret, cid, na, kd) => hm_at w.2.1 (.initialized y.cls) && hm_nmH y.cls && decide (hm_own[cid]? = some y.cls) && decide (mL ≤ 21) && plainFor y && decide ((parseMethodDescriptor y.desc).map (fun d => d.parameters.length) = some (if kd = 0 then na else na - 1)) && decide (kd = 0 ∨ 0 < na) &&
    (match kd with
    | 0 => hm_at w.2.2.1 (.static y)
    | 1 => hm_at w.2.2.1 (.instanceMethod y) && decide (lw_tbl[w.2.2.2]? = some (.selects y.cls y y))
    | _ => hm_at w.2.2.1 (.instanceMethod y) && decide (y.name = "<init>") && decide (ret = none))
