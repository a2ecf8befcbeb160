def hm_cchk (q : (Nat × Nat) × (Nat × Nat × Nat)) : Bool := match hm_own[q.1.1]?, hm_mtab[q.2.1]? with
  | some own, some (y, _, _, _, _, _, _) => (match q.2.2.1 with
    | 0 => hm_at q.2.2.2 (.methodLink own q.1.2 y)
    | _ => hm_at q.2.2.2 (.methodLinkNest own q.1.2 y "HourPromised"))
  | _, _ => false
set_option maxRecDepth 100000 in
theorem hm_cok : hm_ctab.all hm_cchk = true := by decide +kernel
def hm_nname : Nat → String
  | 20 => "[[I"
  | 21 => "[[J"
  | 22 => "java/lang/Object"
  | 23 => "[Ljava/lang/Object;"
  | c => match hm_cls[c]? with
    | some q => q.1
    | none => ""
def hm_nchk (q : (Nat × Nat) × (Nat × Nat)) : Bool := match hm_own[q.1.1]? with
  | some own => hm_at q.2.2 (.classLink own q.1.2 (hm_nname q.2.1)) && decide (q.2.1 < 10 ∨ (20 ≤ q.2.1 ∧ q.2.1 < 24))
  | none => false
theorem hm_nok : hm_ntab.all hm_nchk = true := by decide +kernel
def hm_ichk (q : (Nat × Nat) × (Int32 × Nat)) : Bool := match hm_own[q.1.1]? with
  | some own => hm_at q.2.2 (.constant own q.1.2 q.2.1)
  | none => false
theorem hm_iok : hm_itab.all hm_ichk = true := by decide +kernel
def hm_lchk (q : (Nat × Nat) × (Int64 × Nat)) : Bool := match hm_own[q.1.1]? with
  | some own => hm_at q.2.2 (.constantLong own q.1.2 q.2.1)
  | none => false
theorem hm_lok : hm_ltab.all hm_lchk = true := by decide +kernel
/-- the fields' words of a class of objects; its instances; distinct names; types -/
def hm_kchk (q : vw_C) : Bool := (u_ws q.1 q.2.1 q.2.2).all hm_in && hm_in (.instantiable q.1 q.2.2) && hm_in (.initialized q.1)
theorem hm_kok : hm_cls.all hm_kchk = true := by decide +kernel

theorem hm_n0 : ∀ a, a < 7 → ∀ b, b < 7 → a ≠ b → (hm_F0 a).2.1 ≠ (hm_F0 b).2.1 := by decide +kernel
theorem hm_ty0 : ∀ k, k < 7 → parseFieldDescriptor (hm_F0 k).2.2.1 = some (hm_t0 k) := by decide +kernel
theorem hm_n1 : ∀ a, a < 8 → ∀ b, b < 8 → a ≠ b → (hm_F1 a).2.1 ≠ (hm_F1 b).2.1 := by decide +kernel
theorem hm_ty1 : ∀ k, k < 8 → parseFieldDescriptor (hm_F1 k).2.2.1 = some (hm_t1 k) := by decide +kernel
theorem hm_n2 : ∀ a, a < 1 → ∀ b, b < 1 → a ≠ b → (hm_F2 a).2.1 ≠ (hm_F2 b).2.1 := by decide +kernel
theorem hm_ty2 : ∀ k, k < 1 → parseFieldDescriptor (hm_F2 k).2.2.1 = some (hm_t2 k) := by decide +kernel
theorem hm_n3 : ∀ a, a < 7 → ∀ b, b < 7 → a ≠ b → (hm_F3 a).2.1 ≠ (hm_F3 b).2.1 := by decide +kernel
theorem hm_ty3 : ∀ k, k < 7 → parseFieldDescriptor (hm_F3 k).2.2.1 = some (hm_t3 k) := by decide +kernel
theorem hm_n4 : ∀ a, a < 1 → ∀ b, b < 1 → a ≠ b → (hm_F4 a).2.1 ≠ (hm_F4 b).2.1 := by decide +kernel
theorem hm_ty4 : ∀ k, k < 1 → parseFieldDescriptor (hm_F4 k).2.2.1 = some (hm_t4 k) := by decide +kernel
theorem hm_n5 : ∀ a, a < 5 → ∀ b, b < 5 → a ≠ b → (hm_F5 a).2.1 ≠ (hm_F5 b).2.1 := by decide +kernel
theorem hm_ty5 : ∀ k, k < 5 → parseFieldDescriptor (hm_F5 k).2.2.1 = some (hm_t5 k) := by decide +kernel
theorem hm_n6 : ∀ a, a < 2 → ∀ b, b < 2 → a ≠ b → (hm_F6 a).2.1 ≠ (hm_F6 b).2.1 := by decide +kernel
theorem hm_ty6 : ∀ k, k < 2 → parseFieldDescriptor (hm_F6 k).2.2.1 = some (hm_t6 k) := by decide +kernel
theorem hm_n7 : ∀ a, a < 14 → ∀ b, b < 14 → a ≠ b → (hm_F7 a).2.1 ≠ (hm_F7 b).2.1 := by decide +kernel
theorem hm_ty7 : ∀ k, k < 14 → parseFieldDescriptor (hm_F7 k).2.2.1 = some (hm_t7 k) := by decide +kernel
theorem hm_n8 : ∀ a, a < 31 → ∀ b, b < 31 → a ≠ b → (hm_F8 a).2.1 ≠ (hm_F8 b).2.1 := by decide +kernel
theorem hm_ty8 : ∀ k, k < 31 → parseFieldDescriptor (hm_F8 k).2.2.1 = some (hm_t8 k) := by decide +kernel
theorem hm_n9 : ∀ a, a < 3 → ∀ b, b < 3 → a ≠ b → (hm_F9 a).2.1 ≠ (hm_F9 b).2.1 := by decide +kernel
theorem hm_ty9 : ∀ k, k < 3 → parseFieldDescriptor (hm_F9 k).2.2.1 = some (hm_t9 k) := by decide +kernel
