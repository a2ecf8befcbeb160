/-! THE ABSTRACT MACHINE: the methods' own code over a heap of numbered cells. Cells 0 to 3 were there before (the script, two static tables, the empty list's array); the k-th new one is k + 4. In an array's cell the first number says its class: 0 int[], 1 long[], 2 boolean[], 3 int[][], 4 long[][], 5 Law[], 6 Object[]; 100 an int[] and 101 an empty Object[] that are only read. -/
abbrev hm_H : Type := (Nat → Option va_E) × Nat × Nat
abbrev hm_S : Type := Nat × List Value × List Value × hm_H
abbrev hm_Q : Type := MethodName × ByteArray × Nat × Option FieldType × Nat × Nat × Nat
def hm_up (h : Nat → Option va_E) (i : Nat) (e : va_E) : Nat → Option va_E := fun j => if j = i then some e else h j
def hm_set (hp : hm_H) (i : Nat) (e : va_E) : hm_H := (hm_up hp.1 i e, hp.2.1, hp.2.2)
def hm_push (hp : hm_H) (e : va_E) (n : Nat) : hm_H := (hm_up hp.1 (hp.2.1 + 4) e, hp.2.1 + 1, hp.2.2 + n)
/-- how many bytes an instruction has (0: any) -/
def hm_ln (i : Instr) : Nat := match i with
  | .bipush _ | .ldc _ | .iload _ | .lload _ | .aload _ | .istore _ | .lstore _ | .astore _ | .newarray _ => 2
  | .sipush _ | .iinc _ _ | .ifCond _ _ | .if_icmp _ _ | .if_acmp _ _ | .ifnull _ | .ifnonnull _ | .goto _ | .getfield _ | .putfield _ | .getstatic _ => 3
  | .invokevirtual _ | .invokespecial _ | .invokestatic _ | .new _ | .anewarray _ | .checkcast _ | .ldc_w _ | .ldc2_w _ => 3
  | .multianewarray _ _ => 4
  | .tableswitch _ _ _ _ | .lookupswitch _ _ => 0
  | _ => 1
def hm_code (M pc : Nat) : Option Instr := match hm_mtab[M]? with
  | none => none
  | some q => match decode q.2.1 pc with
    | .ok (i, n) => if hm_ln i = n ∨ hm_ln i = 0 then some i else none
    | .error _ => none
/-- constants, and the stack alone -/
def hm_s1 (i : Instr) (pc : Nat) (ls st : List Value) (hp : hm_H) : Option hm_S := match i, st with
  | .iconst n, _ => some (pc + 1, ls, .int (Int32.ofInt n) :: st, hp)
  | .bipush n, _ => some (pc + 2, ls, .int (Int8.ofInt n).toInt32 :: st, hp)
  | .sipush n, _ => some (pc + 3, ls, .int (Int16.ofInt n).toInt32 :: st, hp)
  | .lconst n, _ => some (pc + 1, ls, .long (Int64.ofNat (n : Nat)) :: st, hp)
  | .aconst_null, _ => some (pc + 1, ls, .null :: st, hp)
  | .dup, a :: r => if a.category = 1 then some (pc + 1, ls, a :: a :: r, hp) else none
  | .pop, a :: r => if a.category = 1 then some (pc + 1, ls, r, hp) else none
  | .dup_x1, a :: b :: r => if a.category = 1 ∧ b.category = 1 then some (pc + 1, ls, a :: b :: a :: r, hp) else none
  | .dup2, a :: b :: r => if a.category = 1 ∧ b.category = 1 then some (pc + 1, ls, a :: b :: a :: b :: r, hp) else none
  | _, _ => none
/-- arithmetic -/
def hm_s2 (i : Instr) (pc : Nat) (ls st : List Value) (hp : hm_H) : Option hm_S := match i, st with
  | .iadd, .int y :: .int x :: r => some (pc + 1, ls, .int (x + y) :: r, hp)
  | .isub, .int y :: .int x :: r => some (pc + 1, ls, .int (x - y) :: r, hp)
  | .imul, .int y :: .int x :: r => some (pc + 1, ls, .int (x * y) :: r, hp)
  | .iand, .int y :: .int x :: r => some (pc + 1, ls, .int (x &&& y) :: r, hp)
  | .ior, .int y :: .int x :: r => some (pc + 1, ls, .int (x ||| y) :: r, hp)
  | .ixor, .int y :: .int x :: r => some (pc + 1, ls, .int (x ^^^ y) :: r, hp)
  | .idiv, .int y :: .int x :: r => if y = 0 then none else some (pc + 1, ls, .int (x / y) :: r, hp)
  | .irem, .int y :: .int x :: r => if y = 0 then none else some (pc + 1, ls, .int (x - x / y * y) :: r, hp)
  | .ineg, .int x :: r => some (pc + 1, ls, .int (-x) :: r, hp)
  | .ishl, .int y :: .int x :: r => some (pc + 1, ls, .int (x <<< (y &&& 31)) :: r, hp)
  | .ishr, .int y :: .int x :: r => some (pc + 1, ls, .int (x >>> (y &&& 31)) :: r, hp)
  | .iushr, .int y :: .int x :: r => some (pc + 1, ls, .int (x.toUInt32 >>> (y.toUInt32 &&& Int32.toUInt32 31)).toInt32 :: r, hp)
  | .i2l, .int x :: r => some (pc + 1, ls, .long x.toInt64 :: r, hp)
  | .l2i, .long x :: r => some (pc + 1, ls, .int x.toInt32 :: r, hp)
  | .ladd, .long y :: .long x :: r => some (pc + 1, ls, .long (x + y) :: r, hp)
  | .lmul, .long y :: .long x :: r => some (pc + 1, ls, .long (x * y) :: r, hp)
  | .ldiv, .long y :: .long x :: r => if y = 0 then none else some (pc + 1, ls, .long (x / y) :: r, hp)
  | .land, .long y :: .long x :: r => some (pc + 1, ls, .long (x &&& y) :: r, hp)
  | .lor, .long y :: .long x :: r => some (pc + 1, ls, .long (x ||| y) :: r, hp)
  | .lshl, .int y :: .long x :: r => some (pc + 1, ls, .long (x <<< (y.toInt64 &&& 63)) :: r, hp)
  | .lshr, .int y :: .long x :: r => some (pc + 1, ls, .long (x >>> (y.toInt64 &&& 63)) :: r, hp)
  | .lushr, .int y :: .long x :: r => some (pc + 1, ls, .long (x.toUInt64 >>> (y.toInt64.toUInt64 &&& Int64.toUInt64 63)).toInt64 :: r, hp)
  | .lcmp, .long y :: .long x :: r => some (pc + 1, ls, .int (lg_cmp x y) :: r, hp)
  | _, _ => none
/-- the place ahead holds a long -/
def hm_wide (ls : List Value) (i : Nat) : Bool := match i with
  | 0 => false
  | j + 1 => match ls[j]? with
    | some w => w.category == 2
    | none => false
def hm_st1 (ls : List Value) (i : Nat) (v : Value) : Option (List Value) := if i < ls.length ∧ hm_wide ls i = false then some (ls.set i v) else none
def hm_st2 (ls : List Value) (i : Nat) (v : Value) : Option (List Value) := if i + 1 < ls.length ∧ hm_wide ls i = false then some ((ls.set i v).set (i + 1) (.retAddr 0)) else none
def hm_ldi (ls : List Value) (k n pc : Nat) (st : List Value) (hp : hm_H) : Option hm_S := match ls[k]? with
  | some (.int x) => some (pc + n, ls, .int x :: st, hp)
  | _ => none
def hm_ldl (ls : List Value) (k n pc : Nat) (st : List Value) (hp : hm_H) : Option hm_S := match ls[k]? with
  | some (.long x) => some (pc + n, ls, .long x :: st, hp)
  | _ => none
def hm_lda (ls : List Value) (k n pc : Nat) (st : List Value) (hp : hm_H) : Option hm_S := match ls[k]? with
  | some (.ref x) => some (pc + n, ls, .ref x :: st, hp)
  | some .null => some (pc + n, ls, .null :: st, hp)
  | _ => none
/-- the locals -/
def hm_s3 (i : Instr) (pc : Nat) (ls st : List Value) (hp : hm_H) : Option hm_S := match i, st with
  | .iload k, _ => hm_ldi ls k 2 pc st hp
  | .iload_n k, _ => hm_ldi ls k 1 pc st hp
  | .lload k, _ => hm_ldl ls k 2 pc st hp
  | .lload_n k, _ => hm_ldl ls k 1 pc st hp
  | .aload k, _ => hm_lda ls k 2 pc st hp
  | .aload_n k, _ => hm_lda ls k 1 pc st hp
  | .istore k, .int x :: r => (hm_st1 ls k (.int x)).map fun l2 => (pc + 2, l2, r, hp)
  | .istore_n k, .int x :: r => (hm_st1 ls k (.int x)).map fun l2 => (pc + 1, l2, r, hp)
  | .astore k, .ref x :: r => (hm_st1 ls k (.ref x)).map fun l2 => (pc + 2, l2, r, hp)
  | .astore_n k, .ref x :: r => (hm_st1 ls k (.ref x)).map fun l2 => (pc + 1, l2, r, hp)
  | .astore k, .null :: r => (hm_st1 ls k .null).map fun l2 => (pc + 2, l2, r, hp)
  | .astore_n k, .null :: r => (hm_st1 ls k .null).map fun l2 => (pc + 1, l2, r, hp)
  | .lstore k, .long x :: r => (hm_st2 ls k (.long x)).map fun l2 => (pc + 2, l2, r, hp)
  | .lstore_n k, .long x :: r => (hm_st2 ls k (.long x)).map fun l2 => (pc + 1, l2, r, hp)
  | .iinc k n, _ => match ls[k]? with
    | some (.int x) => (hm_st1 ls k (.int (x + Int32.ofInt n))).map fun l2 => (pc + 3, l2, st, hp)
    | _ => none
  | _, _ => none
def hm_jmp (pc : Nat) (off : Int) : Option Nat := if 0 ≤ (pc : Int) + off then some ((pc : Int) + off).toNat else none
def hm_to (pc : Nat) (off : Int) (ls r : List Value) (hp : hm_H) : Option hm_S := (hm_jmp pc off).map fun t => (t, ls, r, hp)
/-- roads -/
def hm_s4 (i : Instr) (pc : Nat) (ls st : List Value) (hp : hm_H) : Option hm_S := match i, st with
  | .goto off, _ => hm_to pc off ls st hp
  | .ifCond .eq off, .int x :: r => (hm_jmp pc off).map fun t => if x = 0 then (t, ls, r, hp) else (pc + 3, ls, r, hp)
  | .ifCond .ne off, .int x :: r => (hm_jmp pc off).map fun t => if ¬ x = 0 then (t, ls, r, hp) else (pc + 3, ls, r, hp)
  | .ifCond .lt off, .int x :: r => (hm_jmp pc off).map fun t => if x < 0 then (t, ls, r, hp) else (pc + 3, ls, r, hp)
  | .ifCond .ge off, .int x :: r => (hm_jmp pc off).map fun t => if 0 ≤ x then (t, ls, r, hp) else (pc + 3, ls, r, hp)
  | .ifCond .gt off, .int x :: r => (hm_jmp pc off).map fun t => if 0 < x then (t, ls, r, hp) else (pc + 3, ls, r, hp)
  | .ifCond .le off, .int x :: r => (hm_jmp pc off).map fun t => if x ≤ 0 then (t, ls, r, hp) else (pc + 3, ls, r, hp)
  | .if_icmp .eq off, .int y :: .int x :: r => (hm_jmp pc off).map fun t => if x = y then (t, ls, r, hp) else (pc + 3, ls, r, hp)
  | .if_icmp .ne off, .int y :: .int x :: r => (hm_jmp pc off).map fun t => if ¬ x = y then (t, ls, r, hp) else (pc + 3, ls, r, hp)
  | .if_icmp .lt off, .int y :: .int x :: r => (hm_jmp pc off).map fun t => if x < y then (t, ls, r, hp) else (pc + 3, ls, r, hp)
  | .if_icmp .ge off, .int y :: .int x :: r => (hm_jmp pc off).map fun t => if y ≤ x then (t, ls, r, hp) else (pc + 3, ls, r, hp)
  | .if_icmp .gt off, .int y :: .int x :: r => (hm_jmp pc off).map fun t => if y < x then (t, ls, r, hp) else (pc + 3, ls, r, hp)
  | .if_icmp .le off, .int y :: .int x :: r => (hm_jmp pc off).map fun t => if x ≤ y then (t, ls, r, hp) else (pc + 3, ls, r, hp)
  | .ifnull off, .null :: r => hm_to pc off ls r hp
  | .ifnull _, .ref _ :: r => some (pc + 3, ls, r, hp)
  | .ifnonnull off, .ref _ :: r => hm_to pc off ls r hp
  | .ifnonnull _, .null :: r => some (pc + 3, ls, r, hp)
  | .if_acmp .eq off, .ref b :: .ref a :: r => if a = b then hm_to pc off ls r hp else none
  | .if_acmp .ne off, .ref b :: .ref a :: r => if a = b then (hm_jmp pc off).map fun _ => (pc + 3, ls, r, hp) else none
  | .tableswitch d lo hi offs, .int x :: r => if x.toInt < lo ∨ hi < x.toInt then hm_to pc d ls r hp else match offs[(x.toInt - lo).toNat]? with
    | some off => hm_to pc off ls r hp
    | none => none
  | .lookupswitch d ps, .int x :: r => if (ps.toList.zip (ps.toList.drop 1)).all (fun (a, next) => a.1 < next.1) = true then hm_to pc (Op.lookupswitch.offset ps.toList d x.toInt) ls r hp else none
  | _, _ => none
/-- what is read of the heap and of the tables -/
def hm_s5 (cid : Nat) (i : Instr) (pc : Nat) (ls st : List Value) (hp : hm_H) : Option hm_S := match i, st with
  | .getfield ix, .ref a :: r => match hm_ftab.lookup (cid, ix), hp.1 a with
    | some (ci, k, _, _), some (.inr (cj, fs)) => if ci = cj then (fs[k]?).map fun v => (pc + 3, ls, v :: r, hp) else none
    | _, _ => none
  | .iaload, .int j :: .ref a :: r => match hp.1 a with
    | some (.inl (t, n, .inl f)) => if (t = 0 ∨ t = 100) ∧ ¬ (j < 0 ∨ n ≤ j.toNatClampNeg) then some (pc + 1, ls, .int (f j.toNatClampNeg) :: r, hp) else none
    | _ => none
  | .baload, .int j :: .ref a :: r => match hp.1 a with
    | some (.inl (t, n, .inl f)) => if t = 2 ∧ ¬ (j < 0 ∨ n ≤ j.toNatClampNeg) then some (pc + 1, ls, .int (f j.toNatClampNeg) :: r, hp) else none
    | _ => none
  | .laload, .int j :: .ref a :: r => match hp.1 a with
    | some (.inl (t, n, .inr (.inl f))) => if t = 1 ∧ ¬ (j < 0 ∨ n ≤ j.toNatClampNeg) then some (pc + 1, ls, .long (f j.toNatClampNeg) :: r, hp) else none
    | _ => none
  | .aaload, .int j :: .ref a :: r => match hp.1 a with
    | some (.inl (t, n, .inr (.inr (.inr (.inr f))))) => if (t = 3 ∨ t = 4 ∨ t = 5 ∨ t = 6) ∧ ¬ (j < 0 ∨ n ≤ j.toNatClampNeg) then some (pc + 1, ls, va_rf (f j.toNatClampNeg) :: r, hp) else none
    | _ => none
  | .arraylength, .ref a :: r => match hp.1 a with
    | some (.inl (_, n, _)) => some (pc + 1, ls, .int (Int32.ofNat n) :: r, hp)
    | _ => none
  | .getstatic ix, _ => (hm_stab.lookup (cid, ix)).map fun q => (pc + 3, ls, .ref q.1 :: st, hp)
  | .checkcast _, .null :: r => some (pc + 3, ls, .null :: r, hp)
  | .checkcast ix, .ref a :: r => match hm_ntab.lookup (cid, ix), hp.1 a with
    | some (ci, _), some (.inr (cj, _)) => if ci = cj then some (pc + 3, ls, .ref a :: r, hp) else none
    | _, _ => none
  | .ldc ix, _ => (hm_itab.lookup (cid, ix)).map fun q => (pc + 2, ls, .int q.1 :: st, hp)
  | .ldc_w ix, _ => (hm_itab.lookup (cid, ix)).map fun q => (pc + 3, ls, .int q.1 :: st, hp)
  | .ldc2_w ix, _ => (hm_ltab.lookup (cid, ix)).map fun q => (pc + 3, ls, .long q.1 :: st, hp)
  | _, _ => none
/-- a value that a field or an answer of a type takes as it is -/
def hm_fv (ty : FieldType) (v : Value) : Bool := match ty, v with
  | .int, .int _ => true
  | .boolean, .int x => decide (x = 0 ∨ x = 1)
  | .long, .long _ => true
  | .object _, .ref _ => true
  | .object _, .null => true
  | .array _, .ref _ => true
  | .array _, .null => true
  | _, _ => false
def hm_fin (q : hm_Q) (ci k : Nat) : Bool := match hm_cls[ci]? with
  | some r => !(r.2.1 k).2.2.2 || (decide (q.1.name = "<init>") && decide ((r.2.1 k).1 = q.1.cls))
  | none => false
/-- what is written to the heap -/
def hm_s6 (q : hm_Q) (i : Instr) (pc : Nat) (ls st : List Value) (hp : hm_H) : Option hm_S := match i, st with
  | .putfield ix, v :: .ref a :: r => match hm_ftab.lookup (q.2.2.2.2.1, ix), hp.1 a with
    | some (ci, k, _, _), some (.inr (cj, fs)) => if (ci = cj ∧ k < fs.length) ∧ hm_fv (hm_fty ci k) v = true ∧ hm_fin q ci k = true then some (pc + 3, ls, r, hm_set hp a (.inr (cj, fs.set k v))) else none
    | _, _ => none
  | .iastore, .int x :: .int j :: .ref a :: r => match hp.1 a with
    | some (.inl (t, n, .inl f)) => if t = 0 ∧ ¬ (j < 0 ∨ n ≤ j.toNatClampNeg) then some (pc + 1, ls, r, hm_set hp a (.inl (t, n, .inl (upd f j.toNatClampNeg x)))) else none
    | _ => none
  | .bastore, .int x :: .int j :: .ref a :: r => match hp.1 a with
    | some (.inl (t, n, .inl f)) => if (t = 2 ∧ (x = 0 ∨ x = 1)) ∧ ¬ (j < 0 ∨ n ≤ j.toNatClampNeg) then some (pc + 1, ls, r, hm_set hp a (.inl (t, n, .inl (upd f j.toNatClampNeg x)))) else none
    | _ => none
  | .lastore, .long x :: .int j :: .ref a :: r => match hp.1 a with
    | some (.inl (t, n, .inr (.inl f))) => if t = 1 ∧ ¬ (j < 0 ∨ n ≤ j.toNatClampNeg) then some (pc + 1, ls, r, hm_set hp a (.inl (t, n, .inr (.inl (vp_updL f j.toNatClampNeg x))))) else none
    | _ => none
  | .aastore, .ref b :: .int j :: .ref a :: r => match hp.1 a, hp.1 b with
    | some (.inl (t, n, .inr (.inr (.inr (.inr f))))), some (.inr (cj, _)) => if ((t = 5 ∧ cj = 2) ∨ (t = 6 ∧ cj < 10)) ∧ ¬ (j < 0 ∨ n ≤ j.toNatClampNeg) then some (pc + 1, ls, r, hm_set hp a (.inl (t, n, .inr (.inr (.inr (.inr (va_up f j.toNatClampNeg (some b)))))))) else none
    | _, _ => none
  | _, _ => none
def hm_df (ci : Nat) : List Value := match hm_cls[ci]? with
  | some r => (List.range r.2.2).map fun k => defaultValue (hm_fty ci k)
  | none => []
/-- the heap with n rows of k places and the array that holds them -/
def hm_grid (hp : hm_H) (t n k : Nat) (z : vp_A) : hm_H := (fun j => if j = hp.2.1 + 4 then some (.inl (t + 3, n, .inr (.inr (.inr (.inr (fun i => if i < n then some (hp.2.1 + 5 + i) else none)))))) else if hp.2.1 + 4 < j ∧ j < hp.2.1 + 5 + n then some (.inl (t, z)) else hp.1 j, hp.2.1 + 1 + n, hp.2.2 + n + n * k)
/-- new cells -/
def hm_s7 (cid : Nat) (i : Instr) (pc : Nat) (ls st : List Value) (hp : hm_H) : Option hm_S := match i, st with
  | .new ix, _ => match hm_ntab.lookup (cid, ix) with
    | some (ci, _) => if ci < 10 then some (pc + 3, ls, .ref (hp.2.1 + 4) :: st, hm_push hp (.inr (ci, hm_df ci)) (hm_df ci).length) else none
    | none => none
  | .newarray .int, .int n :: r => if ¬ n < 0 ∧ n.toNatClampNeg ≤ 100000 then some (pc + 2, ls, .ref (hp.2.1 + 4) :: r, hm_push hp (.inl (0, n.toNatClampNeg, .inl (fun _ => 0))) n.toNatClampNeg) else none
  | .newarray .long, .int n :: r => if ¬ n < 0 ∧ n.toNatClampNeg ≤ 100000 then some (pc + 2, ls, .ref (hp.2.1 + 4) :: r, hm_push hp (.inl (1, n.toNatClampNeg, .inr (.inl (fun _ => 0)))) n.toNatClampNeg) else none
  | .newarray .boolean, .int n :: r => if ¬ n < 0 ∧ n.toNatClampNeg ≤ 100000 then some (pc + 2, ls, .ref (hp.2.1 + 4) :: r, hm_push hp (.inl (2, n.toNatClampNeg, .inl (fun _ => 0))) n.toNatClampNeg) else none
  | .anewarray ix, .int n :: r => match hm_ntab.lookup (cid, ix) with
    | some (ci, _) => if (ci = 2 ∨ ci = 22) ∧ ¬ n < 0 ∧ n.toNatClampNeg ≤ 100000 then some (pc + 3, ls, .ref (hp.2.1 + 4) :: r, hm_push hp (.inl (if ci = 2 then 5 else 6, n.toNatClampNeg, .inr (.inr (.inr (.inr (fun _ => none)))))) n.toNatClampNeg) else none
    | none => none
  | .multianewarray ix dm, .int k :: .int n :: r => match hm_ntab.lookup (cid, ix) with
    | some (ci, _) => if dm = 2 ∧ (¬ n < 0 ∧ n.toNatClampNeg ≤ 100000) ∧ (¬ k < 0 ∧ k.toNatClampNeg ≤ 100000) then
        (if ci = 20 then some (pc + 4, ls, .ref (hp.2.1 + 4) :: r, hm_grid hp 0 n.toNatClampNeg k.toNatClampNeg (k.toNatClampNeg, .inl (fun _ => 0)))
        else if ci = 21 then some (pc + 4, ls, .ref (hp.2.1 + 4) :: r, hm_grid hp 1 n.toNatClampNeg k.toNatClampNeg (k.toNatClampNeg, .inr (.inl (fun _ => 0)))) else none) else none
    | none => none
  | _, _ => none
/-- Object() -/
def hm_s8 (cid : Nat) (i : Instr) (pc : Nat) (ls st : List Value) (hp : hm_H) : Option hm_S := match i, st with
  | .invokespecial ix, .ref _ :: r => match hm_ctab.lookup (cid, ix) with
    | some (c, nst, _) => if (c = 1 ∧ nst = 0) ∧ r.length ≤ 4 then some (pc + 3, ls, r, hp) else none
    | none => none
  | _, _ => none
def hm_step (q : hm_Q) (i : Instr) (pc : Nat) (ls st : List Value) (hp : hm_H) : Option hm_S :=
  (hm_s1 i pc ls st hp).or ((hm_s2 i pc ls st hp).or ((hm_s3 i pc ls st hp).or ((hm_s4 i pc ls st hp).or ((hm_s5 q.2.2.2.2.1 i pc ls st hp).or ((hm_s6 q i pc ls st hp).or ((hm_s7 q.2.2.2.2.1 i pc ls st hp).or (hm_s8 q.2.2.2.2.1 i pc ls st hp)))))))
/-- the end of a method -/
def hm_ret (i : Instr) (ret : Option FieldType) (st : List Value) : Option (Option Value) := match i, ret, st with
  | .return_, none, [] => some none
  | .ireturn, some .int, [.int x] => some (some (.int x))
  | .ireturn, some .boolean, [.int x] => if x = 0 ∨ x = 1 then some (some (.int x)) else none
  | .lreturn, some .long, [.long x] => some (some (.long x))
  | .areturn, some (.object _), [.ref a] => some (some (.ref a))
  | .areturn, some (.object _), [.null] => some (some .null)
  | .areturn, some (.array _), [.ref a] => some (some (.ref a))
  | .areturn, some (.array _), [.null] => some (some .null)
  | _, _, _ => none
/-- which method, called how -/
def hm_tgt (cid : Nat) (i : Instr) : Option (Nat × Nat) := match i with
  | .invokestatic ix => (hm_ctab.lookup (cid, ix)).map fun q => (q.1, 0)
  | .invokevirtual ix => (hm_ctab.lookup (cid, ix)).map fun q => (q.1, 1)
  | .invokespecial ix => (hm_ctab.lookup (cid, ix)).map fun q => (q.1, 2)
  | _ => none
/-- the receiver is there -/
def hm_rcv (kd cid : Nat) (as : List Value) (hp : hm_H) : Bool := match kd, as with
  | 0, _ => true
  | 1, .ref a :: _ => match hp.1 a with
    | some (.inr (cj, _)) => decide (cj = cid)
    | _ => false
  | 2, .ref _ :: _ => true
  | _, _ => false
def hm_cs (L : List Value) : Nat := (L.map fun v => v.category).sum
/-- a call: the method, its arguments, what stays on the stack -/
def hm_cal (q : hm_Q) (i : Instr) (st : List Value) (hp : hm_H) : Option (Nat × List Value × List Value) := match hm_tgt q.2.2.2.2.1 i with
  | none => none
  | some (c, kd) => match hm_mtab[c]? with
    | none => none
    | some r => if (c < 174 ∧ c ≠ 1 ∧ c ≠ 72) ∧ (r.2.2.2.2.2.2 = kd ∧ r.2.2.2.2.2.1 ≤ st.length) ∧ hm_cs (st.drop r.2.2.2.2.2.1) ≤ 8 ∧ hm_rcv kd r.2.2.2.2.1 (st.take r.2.2.2.2.2.1).reverse hp = true then some (c, (st.take r.2.2.2.2.2.1).reverse, st.drop r.2.2.2.2.2.1) else none
def hm_al : List Value → List Value
  | [] => []
  | v :: vs => if v.category = 2 then v :: .retAddr 0 :: hm_al vs else v :: hm_al vs
/-- the locals with which a method begins -/
def hm_ent (c : Nat) (as : List Value) : Option (List Value) := match hm_mtab[c]? with
  | none => none
  | some r => if (hm_al as).length ≤ r.2.2.1 then some (hm_al as ++ List.replicate (r.2.2.1 - (hm_al as).length) (.retAddr 0)) else none
def hm_isO (hp : hm_H) (o : Option Nat) : Bool := match o with
  | none => true
  | some b => match hp.1 b with
    | some (.inr (cj, _)) => decide (cj < 10)
    | _ => false
def hm_objs (hp : hm_H) (f : Nat → Option Nat) (k : Nat) : Bool := (List.range k).all fun j => hm_isO hp (f j)
/-- Arrays.copyOf of an array of references: a new cell -/
def hm_cpy (q : hm_Q) (i : Instr) (st : List Value) (hp : hm_H) : Option (Nat × List Value × hm_H) := match hm_tgt q.2.2.2.2.1 i, st with
  | some (72, 0), .int n :: .ref a :: r => match hp.1 a with
    | some (.inl (6, k, .inr (.inr (.inr (.inr f))))) => if (¬ n < 0 ∧ n.toNatClampNeg ≤ 100000) ∧ k ≤ n.toNatClampNeg ∧ r.length ≤ 4 ∧ hm_objs hp f k = true then some (hp.2.1 + 4, r, hm_push hp (.inl (6, n.toNatClampNeg, .inr (.inr (.inr (.inr (fun j => if j < k then f j else none)))))) n.toNatClampNeg) else none
    | _ => none
  | _, _ => none
def hm_run : Nat → Nat → Nat → Nat → List Value → List Value → hm_H → Option (Option Value × hm_H)
  | 0, _, _, _, _, _, _ => none
  | f + 1, d, M, pc, ls, st, hp => match hm_mtab[M]?, hm_code M pc with
    | some q, some i => match hm_ret i q.2.2.2.1 st with
      | some r => some (r, hp)
      | none => match hm_step q i pc ls st hp with
        | some (pc2, ls2, st2, hp2) => hm_run f d M pc2 ls2 st2 hp2
        | none => match d with
          | 0 => none
          | d2 + 1 => match hm_cal q i st hp with
            | some (c, as, rest) => match hm_ent c as with
              | none => none
              | some l0 => match hm_run f d2 c 0 l0 [] hp with
                | none => none
                | some (r, hp2) => hm_run f (d2 + 1) M (pc + 3) ls (r.toList ++ rest) hp2
            | none => match hm_cpy q i st hp with
              | some (a, rest, hp2) => if 4 ≤ d2 then hm_run f (d2 + 1) M (pc + 3) ls (.ref a :: rest) hp2 else none
              | none => none
    | _, _ => none
