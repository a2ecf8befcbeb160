/-! THE PURE CALCULUS: what a run of the abstract machine comes to, goal first -/
theorem hm_run_up : ∀ {f d M pc : Nat} {ls st : List Value} {hp : hm_H} {x : Option Value × hm_H}, hm_run f d M pc ls st hp = some x → hm_run (f + 1) d M pc ls st hp = some x
  | 0, _, _, _, _, _, _, _, h => by cases h
  | f + 1, d, M, pc, ls, st, hp, (r, hp2), h => by
    obtain ⟨q, i, hq, hi, hcase⟩ := hm_run_cases h
    rw [hm_run] at h ⊢
    rw [hq, hi] at h ⊢
    dsimp only at h ⊢
    cases hr : hm_ret i q.2.2.2.1 st with
    | some r0 => rw [hr] at h; exact h
    | none =>
      rw [hr] at h
      dsimp only at h ⊢
      cases hs : hm_step q i pc ls st hp with
      | some σ =>
        rw [hs] at h
        exact hm_run_up h
      | none =>
        rw [hs] at h
        dsimp only at h ⊢
        cases d with
        | zero => exact h
        | succ d2 =>
          dsimp only at h ⊢
          cases hc : hm_cal q i st hp with
          | some y =>
            obtain ⟨c, as, rest⟩ := y
            rw [hc] at h
            dsimp only at h ⊢
            cases he : hm_ent c as with
            | none => rw [he] at h; cases h
            | some l0 =>
              rw [he] at h
              dsimp only at h ⊢
              cases h1 : hm_run f d2 c 0 l0 [] hp with
              | none => rw [h1] at h; cases h
              | some y =>
                obtain ⟨r1, hp1⟩ := y
                rw [h1] at h
                rw [hm_run_up h1]
                exact hm_run_up h
          | none =>
            rw [hc] at h
            dsimp only at h ⊢
            cases hy : hm_cpy q i st hp with
            | none => rw [hy] at h; cases h
            | some y =>
              obtain ⟨a, rest, hp1⟩ := y
              rw [hy] at h
              dsimp only at h ⊢
              split at h
              next h4 => rw [if_pos h4]; exact hm_run_up h
              next => cases h
theorem hm_run_ge {f g d M pc : Nat} {ls st : List Value} {hp : hm_H} {x : Option Value × hm_H} (h : hm_run f d M pc ls st hp = some x) (hg : f ≤ g) : hm_run g d M pc ls st hp = some x := by
  obtain ⟨k, rfl⟩ := Nat.exists_eq_add_of_le hg
  induction k with
  | zero => exact h
  | succ k ih => exact hm_run_up (ih (by omega))
/-- a run comes to an end with Q -/
def hm_T (d M pc : Nat) (ls st : List Value) (hp : hm_H) (Q : Option Value → hm_H → Prop) : Prop := ∃ (f : Nat) (r : Option Value) (hp2 : hm_H), hm_run f d M pc ls st hp = some (r, hp2) ∧ Q r hp2
section HT
variable {d M pc : Nat} {ls st r ls2 st2 : List Value} {hp hp2 : hm_H} {Q : Option Value → hm_H → Prop} {i : Instr} {q : hm_Q}
theorem hm_T.mono {Q2 : Option Value → hm_H → Prop} (h : hm_T d M pc ls st hp Q) (hQ : ∀ r hp2, Q r hp2 → Q2 r hp2) : hm_T d M pc ls st hp Q2 := by
  obtain ⟨f, r, hp2, h1, h2⟩ := h
  exact ⟨f, r, hp2, h1, hQ r hp2 h2⟩
theorem hm_code_q (hI : hm_code M pc = some i) : ∃ q, hm_mtab[M]? = some q := by
  unfold hm_code at hI
  split at hI
  next => cases hI
  next q hq => exact ⟨q, hq⟩
theorem hm_T.ret {v : Option Value} (hq : hm_mtab[M]? = some q) (hI : hm_code M pc = some i) (hr : hm_ret i q.2.2.2.1 st = some v) (h : Q v hp) : hm_T d M pc ls st hp Q := by
  refine ⟨1, v, hp, ?_, h⟩
  rw [hm_run, hq, hI]
  dsimp only
  rw [hr]
theorem hm_T.of {pc2 : Nat} (hI : hm_code M pc = some i) (hr : ∀ ret, hm_ret i ret st = none) (hs : ∀ q, hm_mtab[M]? = some q → hm_step q i pc ls st hp = some (pc2, ls2, st2, hp2)) (h : hm_T d M pc2 ls2 st2 hp2 Q) : hm_T d M pc ls st hp Q := by
  obtain ⟨f, v, hp3, h1, h2⟩ := h
  obtain ⟨q, hq⟩ := hm_code_q hI
  refine ⟨f + 1, v, hp3, ?_, h2⟩
  rw [hm_run, hq, hI]
  dsimp only
  rw [hr, hs q hq]
  exact h1
theorem hm_T.call {as rest l0 : List Value} {cc : Nat} (hq : hm_mtab[M]? = some q) (hI : hm_code M pc = some i) (hr : ∀ ret, hm_ret i ret st = none) (hs : hm_step q i pc ls st hp = none) (hc : hm_cal q i st hp = some (cc, as, rest)) (he : hm_ent cc as = some l0) (h : hm_T d cc 0 l0 [] hp (fun v hp2 => hm_T (d + 1) M (pc + 3) ls (v.toList ++ rest) hp2 Q)) : hm_T (d + 1) M pc ls st hp Q := by
  obtain ⟨f, v, hp3, h1, f2, v2, hp4, h2, h3⟩ := h
  refine ⟨max f f2 + 1, v2, hp4, ?_, h3⟩
  rw [hm_run, hq, hI]
  dsimp only
  rw [hr, hs]
  dsimp only
  rw [hc]
  dsimp only
  rw [he]
  dsimp only
  rw [hm_run_ge h1 (Nat.le_max_left f f2)]
  exact hm_run_ge h2 (Nat.le_max_right f f2)
theorem hm_T.copy {rest : List Value} {a : Nat} (hq : hm_mtab[M]? = some q) (hI : hm_code M pc = some i) (hr : ∀ ret, hm_ret i ret st = none) (hs : hm_step q i pc ls st hp = none) (hc : hm_cal q i st hp = none) (hy : hm_cpy q i st hp = some (a, rest, hp2)) (hd : 4 ≤ d) (h : hm_T (d + 1) M (pc + 3) ls (.ref a :: rest) hp2 Q) : hm_T (d + 1) M pc ls st hp Q := by
  obtain ⟨f, v, hp3, h1, h2⟩ := h
  refine ⟨f + 1, v, hp3, ?_, h2⟩
  rw [hm_run, hq, hI]
  dsimp only
  rw [hr, hs]
  dsimp only
  rw [hc]
  dsimp only
  rw [hy]
  dsimp only
  rw [if_pos hd]
  exact h1
theorem hm_sel1 {σ : hm_S}  (h : hm_s1 i pc ls st hp = some σ) : hm_step q i pc ls st hp = some σ := by
  unfold hm_step
  rw [h]
  rfl
theorem hm_sel2 {σ : hm_S} (h1 : hm_s1 i pc ls st hp = none) (h : hm_s2 i pc ls st hp = some σ) : hm_step q i pc ls st hp = some σ := by
  unfold hm_step
  rw [h1, h]
  rfl
theorem hm_sel3 {σ : hm_S} (h1 : hm_s1 i pc ls st hp = none) (h2 : hm_s2 i pc ls st hp = none) (h : hm_s3 i pc ls st hp = some σ) : hm_step q i pc ls st hp = some σ := by
  unfold hm_step
  rw [h1, h2, h]
  rfl
theorem hm_sel4 {σ : hm_S} (h1 : hm_s1 i pc ls st hp = none) (h2 : hm_s2 i pc ls st hp = none) (h3 : hm_s3 i pc ls st hp = none) (h : hm_s4 i pc ls st hp = some σ) : hm_step q i pc ls st hp = some σ := by
  unfold hm_step
  rw [h1, h2, h3, h]
  rfl
theorem hm_sel5 {σ : hm_S} (h1 : hm_s1 i pc ls st hp = none) (h2 : hm_s2 i pc ls st hp = none) (h3 : hm_s3 i pc ls st hp = none) (h4 : hm_s4 i pc ls st hp = none) (h : hm_s5 q.2.2.2.2.1 i pc ls st hp = some σ) : hm_step q i pc ls st hp = some σ := by
  unfold hm_step
  rw [h1, h2, h3, h4, h]
  rfl
theorem hm_sel6 {σ : hm_S} (h1 : hm_s1 i pc ls st hp = none) (h2 : hm_s2 i pc ls st hp = none) (h3 : hm_s3 i pc ls st hp = none) (h4 : hm_s4 i pc ls st hp = none) (h5 : hm_s5 q.2.2.2.2.1 i pc ls st hp = none) (h : hm_s6 q i pc ls st hp = some σ) : hm_step q i pc ls st hp = some σ := by
  unfold hm_step
  rw [h1, h2, h3, h4, h5, h]
  rfl
theorem hm_sel7 {σ : hm_S} (h1 : hm_s1 i pc ls st hp = none) (h2 : hm_s2 i pc ls st hp = none) (h3 : hm_s3 i pc ls st hp = none) (h4 : hm_s4 i pc ls st hp = none) (h5 : hm_s5 q.2.2.2.2.1 i pc ls st hp = none) (h6 : hm_s6 q i pc ls st hp = none) (h : hm_s7 q.2.2.2.2.1 i pc ls st hp = some σ) : hm_step q i pc ls st hp = some σ := by
  unfold hm_step
  rw [h1, h2, h3, h4, h5, h6, h]
  rfl
theorem hm_sel8 {σ : hm_S} (h1 : hm_s1 i pc ls st hp = none) (h2 : hm_s2 i pc ls st hp = none) (h3 : hm_s3 i pc ls st hp = none) (h4 : hm_s4 i pc ls st hp = none) (h5 : hm_s5 q.2.2.2.2.1 i pc ls st hp = none) (h6 : hm_s6 q i pc ls st hp = none) (h7 : hm_s7 q.2.2.2.2.1 i pc ls st hp = none) (h : hm_s8 q.2.2.2.2.1 i pc ls st hp = some σ) : hm_step q i pc ls st hp = some σ := by
  unfold hm_step
  rw [h1, h2, h3, h4, h5, h6, h7, h]
  rfl
theorem r_iconst {n : Int} {v : Int32} (hI : hm_code M pc = some (.iconst n)) (hv : Int32.ofInt n = v) (h : hm_T d M (pc + 1) ls (.int v :: st) hp Q) : hm_T d M pc ls st hp Q :=
  hm_T.of hI (fun _ => rfl) (fun q2 _ => hm_sel1 (by rw [← hv]; rfl)) h
theorem r_bipush {n : Int} {v : Int32} (hI : hm_code M pc = some (.bipush n)) (hv : (Int8.ofInt n).toInt32 = v) (h : hm_T d M (pc + 2) ls (.int v :: st) hp Q) : hm_T d M pc ls st hp Q :=
  hm_T.of hI (fun _ => rfl) (fun q2 _ => hm_sel1 (by rw [← hv]; rfl)) h
theorem r_sipush {n : Int} {v : Int32} (hI : hm_code M pc = some (.sipush n)) (hv : (Int16.ofInt n).toInt32 = v) (h : hm_T d M (pc + 3) ls (.int v :: st) hp Q) : hm_T d M pc ls st hp Q :=
  hm_T.of hI (fun _ => rfl) (fun q2 _ => hm_sel1 (by rw [← hv]; rfl)) h
theorem r_lconst {n : Fin 2} {v : Int64} (hI : hm_code M pc = some (.lconst n)) (hv : Int64.ofNat (n : Nat) = v) (h : hm_T d M (pc + 1) ls (.long v :: st) hp Q) : hm_T d M pc ls st hp Q :=
  hm_T.of hI (fun _ => rfl) (fun q2 _ => hm_sel1 (by rw [← hv]; rfl)) h
theorem r_null (hI : hm_code M pc = some (.aconst_null)) (h : hm_T d M (pc + 1) ls (.null :: st) hp Q) : hm_T d M pc ls st hp Q :=
  hm_T.of hI (fun _ => rfl) (fun q2 _ => hm_sel1 (rfl)) h
theorem r_dup {a : Value} (hI : hm_code M pc = some (.dup)) (ha : a.category = 1) (h : hm_T d M (pc + 1) ls (a :: a :: r) hp Q) : hm_T d M pc ls (a :: r) hp Q :=
  hm_T.of hI (fun _ => rfl) (fun q2 _ => hm_sel1 (if_pos ha)) h
theorem r_pop {a : Value} (hI : hm_code M pc = some (.pop)) (ha : a.category = 1) (h : hm_T d M (pc + 1) ls r hp Q) : hm_T d M pc ls (a :: r) hp Q :=
  hm_T.of hI (fun _ => rfl) (fun q2 _ => hm_sel1 (if_pos ha)) h
theorem r_dup_x1 {a b : Value} (hI : hm_code M pc = some (.dup_x1)) (ha : a.category = 1) (hb : b.category = 1) (h : hm_T d M (pc + 1) ls (a :: b :: a :: r) hp Q) : hm_T d M pc ls (a :: b :: r) hp Q :=
  hm_T.of hI (fun _ => rfl) (fun q2 _ => hm_sel1 (if_pos ⟨ha, hb⟩)) h
theorem r_dup2 {a b : Value} (hI : hm_code M pc = some (.dup2)) (ha : a.category = 1) (hb : b.category = 1) (h : hm_T d M (pc + 1) ls (a :: b :: a :: b :: r) hp Q) : hm_T d M pc ls (a :: b :: r) hp Q :=
  hm_T.of hI (fun _ => rfl) (fun q2 _ => hm_sel1 (if_pos ⟨ha, hb⟩)) h
theorem r_iadd {x y : Int32} (hI : hm_code M pc = some (.iadd)) (h : hm_T d M (pc + 1) ls (.int (x + y) :: r) hp Q) : hm_T d M pc ls (.int y :: .int x :: r) hp Q :=
  hm_T.of hI (fun _ => rfl) (fun q2 _ => hm_sel2 rfl (rfl)) h
theorem r_isub {x y : Int32} (hI : hm_code M pc = some (.isub)) (h : hm_T d M (pc + 1) ls (.int (x - y) :: r) hp Q) : hm_T d M pc ls (.int y :: .int x :: r) hp Q :=
  hm_T.of hI (fun _ => rfl) (fun q2 _ => hm_sel2 rfl (rfl)) h
theorem r_imul {x y : Int32} (hI : hm_code M pc = some (.imul)) (h : hm_T d M (pc + 1) ls (.int (x * y) :: r) hp Q) : hm_T d M pc ls (.int y :: .int x :: r) hp Q :=
  hm_T.of hI (fun _ => rfl) (fun q2 _ => hm_sel2 rfl (rfl)) h
theorem r_iand {x y : Int32} (hI : hm_code M pc = some (.iand)) (h : hm_T d M (pc + 1) ls (.int (x &&& y) :: r) hp Q) : hm_T d M pc ls (.int y :: .int x :: r) hp Q :=
  hm_T.of hI (fun _ => rfl) (fun q2 _ => hm_sel2 rfl (rfl)) h
theorem r_ior {x y : Int32} (hI : hm_code M pc = some (.ior)) (h : hm_T d M (pc + 1) ls (.int (x ||| y) :: r) hp Q) : hm_T d M pc ls (.int y :: .int x :: r) hp Q :=
  hm_T.of hI (fun _ => rfl) (fun q2 _ => hm_sel2 rfl (rfl)) h
theorem r_ixor {x y : Int32} (hI : hm_code M pc = some (.ixor)) (h : hm_T d M (pc + 1) ls (.int (x ^^^ y) :: r) hp Q) : hm_T d M pc ls (.int y :: .int x :: r) hp Q :=
  hm_T.of hI (fun _ => rfl) (fun q2 _ => hm_sel2 rfl (rfl)) h
theorem r_ishl {x y : Int32} (hI : hm_code M pc = some (.ishl)) (h : hm_T d M (pc + 1) ls (.int (x <<< (y &&& 31)) :: r) hp Q) : hm_T d M pc ls (.int y :: .int x :: r) hp Q :=
  hm_T.of hI (fun _ => rfl) (fun q2 _ => hm_sel2 rfl (rfl)) h
theorem r_ishr {x y : Int32} (hI : hm_code M pc = some (.ishr)) (h : hm_T d M (pc + 1) ls (.int (x >>> (y &&& 31)) :: r) hp Q) : hm_T d M pc ls (.int y :: .int x :: r) hp Q :=
  hm_T.of hI (fun _ => rfl) (fun q2 _ => hm_sel2 rfl (rfl)) h
theorem r_iushr {x y : Int32} (hI : hm_code M pc = some (.iushr)) (h : hm_T d M (pc + 1) ls (.int (x.toUInt32 >>> (y.toUInt32 &&& Int32.toUInt32 31)).toInt32 :: r) hp Q) : hm_T d M pc ls (.int y :: .int x :: r) hp Q :=
  hm_T.of hI (fun _ => rfl) (fun q2 _ => hm_sel2 rfl (rfl)) h
theorem r_idiv {x y : Int32} (hI : hm_code M pc = some (.idiv)) (hy : ¬ y = 0) (h : hm_T d M (pc + 1) ls (.int (x / y) :: r) hp Q) : hm_T d M pc ls (.int y :: .int x :: r) hp Q :=
  hm_T.of hI (fun _ => rfl) (fun q2 _ => hm_sel2 rfl (if_neg hy)) h
theorem r_irem {x y : Int32} (hI : hm_code M pc = some (.irem)) (hy : ¬ y = 0) (h : hm_T d M (pc + 1) ls (.int (x - x / y * y) :: r) hp Q) : hm_T d M pc ls (.int y :: .int x :: r) hp Q :=
  hm_T.of hI (fun _ => rfl) (fun q2 _ => hm_sel2 rfl (if_neg hy)) h
theorem r_ineg {x : Int32} (hI : hm_code M pc = some (.ineg)) (h : hm_T d M (pc + 1) ls (.int (-x) :: r) hp Q) : hm_T d M pc ls (.int x :: r) hp Q :=
  hm_T.of hI (fun _ => rfl) (fun q2 _ => hm_sel2 rfl (rfl)) h
theorem r_i2l {x : Int32} (hI : hm_code M pc = some (.i2l)) (h : hm_T d M (pc + 1) ls (.long x.toInt64 :: r) hp Q) : hm_T d M pc ls (.int x :: r) hp Q :=
  hm_T.of hI (fun _ => rfl) (fun q2 _ => hm_sel2 rfl (rfl)) h
theorem r_l2i {x : Int64} (hI : hm_code M pc = some (.l2i)) (h : hm_T d M (pc + 1) ls (.int x.toInt32 :: r) hp Q) : hm_T d M pc ls (.long x :: r) hp Q :=
  hm_T.of hI (fun _ => rfl) (fun q2 _ => hm_sel2 rfl (rfl)) h
theorem r_ladd {x y : Int64} (hI : hm_code M pc = some (.ladd)) (h : hm_T d M (pc + 1) ls (.long (x + y) :: r) hp Q) : hm_T d M pc ls (.long y :: .long x :: r) hp Q :=
  hm_T.of hI (fun _ => rfl) (fun q2 _ => hm_sel2 rfl (rfl)) h
theorem r_lmul {x y : Int64} (hI : hm_code M pc = some (.lmul)) (h : hm_T d M (pc + 1) ls (.long (x * y) :: r) hp Q) : hm_T d M pc ls (.long y :: .long x :: r) hp Q :=
  hm_T.of hI (fun _ => rfl) (fun q2 _ => hm_sel2 rfl (rfl)) h
theorem r_land {x y : Int64} (hI : hm_code M pc = some (.land)) (h : hm_T d M (pc + 1) ls (.long (x &&& y) :: r) hp Q) : hm_T d M pc ls (.long y :: .long x :: r) hp Q :=
  hm_T.of hI (fun _ => rfl) (fun q2 _ => hm_sel2 rfl (rfl)) h
theorem r_lor {x y : Int64} (hI : hm_code M pc = some (.lor)) (h : hm_T d M (pc + 1) ls (.long (x ||| y) :: r) hp Q) : hm_T d M pc ls (.long y :: .long x :: r) hp Q :=
  hm_T.of hI (fun _ => rfl) (fun q2 _ => hm_sel2 rfl (rfl)) h
theorem r_ldiv {x y : Int64} (hI : hm_code M pc = some (.ldiv)) (hy : ¬ y = 0) (h : hm_T d M (pc + 1) ls (.long (x / y) :: r) hp Q) : hm_T d M pc ls (.long y :: .long x :: r) hp Q :=
  hm_T.of hI (fun _ => rfl) (fun q2 _ => hm_sel2 rfl (if_neg hy)) h
theorem r_lshl {x : Int64} {y : Int32} (hI : hm_code M pc = some (.lshl)) (h : hm_T d M (pc + 1) ls (.long (x <<< (y.toInt64 &&& 63)) :: r) hp Q) : hm_T d M pc ls (.int y :: .long x :: r) hp Q :=
  hm_T.of hI (fun _ => rfl) (fun q2 _ => hm_sel2 rfl (rfl)) h
theorem r_lshr {x : Int64} {y : Int32} (hI : hm_code M pc = some (.lshr)) (h : hm_T d M (pc + 1) ls (.long (x >>> (y.toInt64 &&& 63)) :: r) hp Q) : hm_T d M pc ls (.int y :: .long x :: r) hp Q :=
  hm_T.of hI (fun _ => rfl) (fun q2 _ => hm_sel2 rfl (rfl)) h
theorem r_lushr {x : Int64} {y : Int32} (hI : hm_code M pc = some (.lushr)) (h : hm_T d M (pc + 1) ls (.long (x.toUInt64 >>> (y.toInt64.toUInt64 &&& Int64.toUInt64 63)).toInt64 :: r) hp Q) : hm_T d M pc ls (.int y :: .long x :: r) hp Q :=
  hm_T.of hI (fun _ => rfl) (fun q2 _ => hm_sel2 rfl (rfl)) h
theorem r_lcmp {x y : Int64} (hI : hm_code M pc = some (.lcmp)) (h : hm_T d M (pc + 1) ls (.int (lg_cmp x y) :: r) hp Q) : hm_T d M pc ls (.long y :: .long x :: r) hp Q :=
  hm_T.of hI (fun _ => rfl) (fun q2 _ => hm_sel2 rfl (rfl)) h
theorem r_iload {k : Nat} {x : Int32} (hI : hm_code M pc = some (.iload k)) (hl : ls[(k : Nat)]? = some (.int x)) (h : hm_T d M (pc + 2) ls (.int x :: st) hp Q) : hm_T d M pc ls st hp Q :=
  hm_T.of hI (fun _ => rfl) (fun q2 _ => hm_sel3 rfl rfl (by show hm_ldi ls k 2 pc st hp = _; unfold hm_ldi; rw [hl])) h
theorem r_iload_n {k : Fin 4} {x : Int32} (hI : hm_code M pc = some (.iload_n k)) (hl : ls[(k : Nat)]? = some (.int x)) (h : hm_T d M (pc + 1) ls (.int x :: st) hp Q) : hm_T d M pc ls st hp Q :=
  hm_T.of hI (fun _ => rfl) (fun q2 _ => hm_sel3 rfl rfl (by show hm_ldi ls k 1 pc st hp = _; unfold hm_ldi; rw [hl])) h
theorem r_lload {k : Nat} {x : Int64} (hI : hm_code M pc = some (.lload k)) (hl : ls[(k : Nat)]? = some (.long x)) (h : hm_T d M (pc + 2) ls (.long x :: st) hp Q) : hm_T d M pc ls st hp Q :=
  hm_T.of hI (fun _ => rfl) (fun q2 _ => hm_sel3 rfl rfl (by show hm_ldl ls k 2 pc st hp = _; unfold hm_ldl; rw [hl])) h
theorem r_lload_n {k : Fin 4} {x : Int64} (hI : hm_code M pc = some (.lload_n k)) (hl : ls[(k : Nat)]? = some (.long x)) (h : hm_T d M (pc + 1) ls (.long x :: st) hp Q) : hm_T d M pc ls st hp Q :=
  hm_T.of hI (fun _ => rfl) (fun q2 _ => hm_sel3 rfl rfl (by show hm_ldl ls k 1 pc st hp = _; unfold hm_ldl; rw [hl])) h
theorem r_aload {k : Nat} {x : Nat} (hI : hm_code M pc = some (.aload k)) (hl : ls[(k : Nat)]? = some (.ref x)) (h : hm_T d M (pc + 2) ls (.ref x :: st) hp Q) : hm_T d M pc ls st hp Q :=
  hm_T.of hI (fun _ => rfl) (fun q2 _ => hm_sel3 rfl rfl (by show hm_lda ls k 2 pc st hp = _; unfold hm_lda; rw [hl])) h
theorem r_aloadN {k : Nat} (hI : hm_code M pc = some (.aload k)) (hl : ls[(k : Nat)]? = some .null) (h : hm_T d M (pc + 2) ls (.null :: st) hp Q) : hm_T d M pc ls st hp Q :=
  hm_T.of hI (fun _ => rfl) (fun q2 _ => hm_sel3 rfl rfl (by show hm_lda ls k 2 pc st hp = _; unfold hm_lda; rw [hl])) h
theorem r_aload_n {k : Fin 4} {x : Nat} (hI : hm_code M pc = some (.aload_n k)) (hl : ls[(k : Nat)]? = some (.ref x)) (h : hm_T d M (pc + 1) ls (.ref x :: st) hp Q) : hm_T d M pc ls st hp Q :=
  hm_T.of hI (fun _ => rfl) (fun q2 _ => hm_sel3 rfl rfl (by show hm_lda ls k 1 pc st hp = _; unfold hm_lda; rw [hl])) h
theorem r_aload_nN {k : Fin 4} (hI : hm_code M pc = some (.aload_n k)) (hl : ls[(k : Nat)]? = some .null) (h : hm_T d M (pc + 1) ls (.null :: st) hp Q) : hm_T d M pc ls st hp Q :=
  hm_T.of hI (fun _ => rfl) (fun q2 _ => hm_sel3 rfl rfl (by show hm_lda ls k 1 pc st hp = _; unfold hm_lda; rw [hl])) h
theorem r_istore {k : Nat} {x : Int32} (hI : hm_code M pc = some (.istore k)) (hl : hm_st1 ls k (.int x) = some ls2) (h : hm_T d M (pc + 2) ls2 r hp Q) : hm_T d M pc ls (.int x :: r) hp Q :=
  hm_T.of hI (fun _ => rfl) (fun q2 _ => hm_sel3 rfl rfl (by show (hm_st1 ls k (.int x)).map _ = _; rw [hl]; rfl)) h
theorem r_istore_n {k : Fin 4} {x : Int32} (hI : hm_code M pc = some (.istore_n k)) (hl : hm_st1 ls k (.int x) = some ls2) (h : hm_T d M (pc + 1) ls2 r hp Q) : hm_T d M pc ls (.int x :: r) hp Q :=
  hm_T.of hI (fun _ => rfl) (fun q2 _ => hm_sel3 rfl rfl (by show (hm_st1 ls k (.int x)).map _ = _; rw [hl]; rfl)) h
theorem r_lstore {k : Nat} {x : Int64} (hI : hm_code M pc = some (.lstore k)) (hl : hm_st2 ls k (.long x) = some ls2) (h : hm_T d M (pc + 2) ls2 r hp Q) : hm_T d M pc ls (.long x :: r) hp Q :=
  hm_T.of hI (fun _ => rfl) (fun q2 _ => hm_sel3 rfl rfl (by show (hm_st2 ls k (.long x)).map _ = _; rw [hl]; rfl)) h
theorem r_lstore_n {k : Fin 4} {x : Int64} (hI : hm_code M pc = some (.lstore_n k)) (hl : hm_st2 ls k (.long x) = some ls2) (h : hm_T d M (pc + 1) ls2 r hp Q) : hm_T d M pc ls (.long x :: r) hp Q :=
  hm_T.of hI (fun _ => rfl) (fun q2 _ => hm_sel3 rfl rfl (by show (hm_st2 ls k (.long x)).map _ = _; rw [hl]; rfl)) h
theorem r_astore {k : Nat} {x : Nat} (hI : hm_code M pc = some (.astore k)) (hl : hm_st1 ls k (.ref x) = some ls2) (h : hm_T d M (pc + 2) ls2 r hp Q) : hm_T d M pc ls (.ref x :: r) hp Q :=
  hm_T.of hI (fun _ => rfl) (fun q2 _ => hm_sel3 rfl rfl (by show (hm_st1 ls k (.ref x)).map _ = _; rw [hl]; rfl)) h
theorem r_astoreN {k : Nat} (hI : hm_code M pc = some (.astore k)) (hl : hm_st1 ls k .null = some ls2) (h : hm_T d M (pc + 2) ls2 r hp Q) : hm_T d M pc ls (.null :: r) hp Q :=
  hm_T.of hI (fun _ => rfl) (fun q2 _ => hm_sel3 rfl rfl (by show (hm_st1 ls k .null).map _ = _; rw [hl]; rfl)) h
theorem r_astore_n {k : Fin 4} {x : Nat} (hI : hm_code M pc = some (.astore_n k)) (hl : hm_st1 ls k (.ref x) = some ls2) (h : hm_T d M (pc + 1) ls2 r hp Q) : hm_T d M pc ls (.ref x :: r) hp Q :=
  hm_T.of hI (fun _ => rfl) (fun q2 _ => hm_sel3 rfl rfl (by show (hm_st1 ls k (.ref x)).map _ = _; rw [hl]; rfl)) h
theorem r_astore_nN {k : Fin 4} (hI : hm_code M pc = some (.astore_n k)) (hl : hm_st1 ls k .null = some ls2) (h : hm_T d M (pc + 1) ls2 r hp Q) : hm_T d M pc ls (.null :: r) hp Q :=
  hm_T.of hI (fun _ => rfl) (fun q2 _ => hm_sel3 rfl rfl (by show (hm_st1 ls k .null).map _ = _; rw [hl]; rfl)) h
theorem r_iinc {k : Nat} {n : Int} {x : Int32} (hI : hm_code M pc = some (.iinc k n)) (hk : ls[k]? = some (.int x)) (hl : hm_st1 ls k (.int (x + Int32.ofInt n)) = some ls2) (h : hm_T d M (pc + 3) ls2 st hp Q) : hm_T d M pc ls st hp Q :=
  hm_T.of hI (fun _ => rfl) (fun q2 _ => hm_sel3 rfl rfl (by show (match ls[k]? with | some (.int x) => (hm_st1 ls k (.int (x + Int32.ofInt n))).map fun l2 => (pc + 3, l2, st, hp) | _ => none) = _; rw [hk]; show (hm_st1 ls k (.int (x + Int32.ofInt n))).map _ = _; rw [hl]; rfl)) h
theorem r_goto {off : Int} {t : Nat} (hI : hm_code M pc = some (.goto off)) (ht : hm_jmp pc off = some t) (h : hm_T d M t ls st hp Q) : hm_T d M pc ls st hp Q :=
  hm_T.of hI (fun _ => rfl) (fun q2 _ => hm_sel4 rfl rfl rfl (by show hm_to pc off ls st hp = _; unfold hm_to; rw [ht]; rfl)) h
theorem r_if_eq {x : Int32} {off : Int} {t : Nat} (hI : hm_code M pc = some (.ifCond .eq off)) (ht : hm_jmp pc off = some t) (h1 : x = 0 → hm_T d M t ls r hp Q) (h2 : ¬ (x = 0) → hm_T d M (pc + 3) ls r hp Q) : hm_T d M pc ls (.int x :: r) hp Q := by
  by_cases hc : x = 0
  · exact hm_T.of hI (fun _ => rfl) (fun q2 _ => hm_sel4 rfl rfl rfl (by show (hm_jmp pc off).map _ = _; rw [ht]; show some (if x = 0 then _ else _) = _; rw [if_pos hc])) (h1 hc)
  · exact hm_T.of hI (fun _ => rfl) (fun q2 _ => hm_sel4 rfl rfl rfl (by show (hm_jmp pc off).map _ = _; rw [ht]; show some (if x = 0 then _ else _) = _; rw [if_neg hc])) (h2 hc)
theorem r_if_ne {x : Int32} {off : Int} {t : Nat} (hI : hm_code M pc = some (.ifCond .ne off)) (ht : hm_jmp pc off = some t) (h1 : ¬ x = 0 → hm_T d M t ls r hp Q) (h2 : ¬ (¬ x = 0) → hm_T d M (pc + 3) ls r hp Q) : hm_T d M pc ls (.int x :: r) hp Q := by
  by_cases hc : ¬ x = 0
  · exact hm_T.of hI (fun _ => rfl) (fun q2 _ => hm_sel4 rfl rfl rfl (by show (hm_jmp pc off).map _ = _; rw [ht]; show some (if ¬ x = 0 then _ else _) = _; rw [if_pos hc])) (h1 hc)
  · exact hm_T.of hI (fun _ => rfl) (fun q2 _ => hm_sel4 rfl rfl rfl (by show (hm_jmp pc off).map _ = _; rw [ht]; show some (if ¬ x = 0 then _ else _) = _; rw [if_neg hc])) (h2 hc)
theorem r_if_lt {x : Int32} {off : Int} {t : Nat} (hI : hm_code M pc = some (.ifCond .lt off)) (ht : hm_jmp pc off = some t) (h1 : x < 0 → hm_T d M t ls r hp Q) (h2 : ¬ (x < 0) → hm_T d M (pc + 3) ls r hp Q) : hm_T d M pc ls (.int x :: r) hp Q := by
  by_cases hc : x < 0
  · exact hm_T.of hI (fun _ => rfl) (fun q2 _ => hm_sel4 rfl rfl rfl (by show (hm_jmp pc off).map _ = _; rw [ht]; show some (if x < 0 then _ else _) = _; rw [if_pos hc])) (h1 hc)
  · exact hm_T.of hI (fun _ => rfl) (fun q2 _ => hm_sel4 rfl rfl rfl (by show (hm_jmp pc off).map _ = _; rw [ht]; show some (if x < 0 then _ else _) = _; rw [if_neg hc])) (h2 hc)
theorem r_if_ge {x : Int32} {off : Int} {t : Nat} (hI : hm_code M pc = some (.ifCond .ge off)) (ht : hm_jmp pc off = some t) (h1 : 0 ≤ x → hm_T d M t ls r hp Q) (h2 : ¬ (0 ≤ x) → hm_T d M (pc + 3) ls r hp Q) : hm_T d M pc ls (.int x :: r) hp Q := by
  by_cases hc : 0 ≤ x
  · exact hm_T.of hI (fun _ => rfl) (fun q2 _ => hm_sel4 rfl rfl rfl (by show (hm_jmp pc off).map _ = _; rw [ht]; show some (if 0 ≤ x then _ else _) = _; rw [if_pos hc])) (h1 hc)
  · exact hm_T.of hI (fun _ => rfl) (fun q2 _ => hm_sel4 rfl rfl rfl (by show (hm_jmp pc off).map _ = _; rw [ht]; show some (if 0 ≤ x then _ else _) = _; rw [if_neg hc])) (h2 hc)
theorem r_if_gt {x : Int32} {off : Int} {t : Nat} (hI : hm_code M pc = some (.ifCond .gt off)) (ht : hm_jmp pc off = some t) (h1 : 0 < x → hm_T d M t ls r hp Q) (h2 : ¬ (0 < x) → hm_T d M (pc + 3) ls r hp Q) : hm_T d M pc ls (.int x :: r) hp Q := by
  by_cases hc : 0 < x
  · exact hm_T.of hI (fun _ => rfl) (fun q2 _ => hm_sel4 rfl rfl rfl (by show (hm_jmp pc off).map _ = _; rw [ht]; show some (if 0 < x then _ else _) = _; rw [if_pos hc])) (h1 hc)
  · exact hm_T.of hI (fun _ => rfl) (fun q2 _ => hm_sel4 rfl rfl rfl (by show (hm_jmp pc off).map _ = _; rw [ht]; show some (if 0 < x then _ else _) = _; rw [if_neg hc])) (h2 hc)
theorem r_if_le {x : Int32} {off : Int} {t : Nat} (hI : hm_code M pc = some (.ifCond .le off)) (ht : hm_jmp pc off = some t) (h1 : x ≤ 0 → hm_T d M t ls r hp Q) (h2 : ¬ (x ≤ 0) → hm_T d M (pc + 3) ls r hp Q) : hm_T d M pc ls (.int x :: r) hp Q := by
  by_cases hc : x ≤ 0
  · exact hm_T.of hI (fun _ => rfl) (fun q2 _ => hm_sel4 rfl rfl rfl (by show (hm_jmp pc off).map _ = _; rw [ht]; show some (if x ≤ 0 then _ else _) = _; rw [if_pos hc])) (h1 hc)
  · exact hm_T.of hI (fun _ => rfl) (fun q2 _ => hm_sel4 rfl rfl rfl (by show (hm_jmp pc off).map _ = _; rw [ht]; show some (if x ≤ 0 then _ else _) = _; rw [if_neg hc])) (h2 hc)
theorem r_icmp_eq {x y : Int32} {off : Int} {t : Nat} (hI : hm_code M pc = some (.if_icmp .eq off)) (ht : hm_jmp pc off = some t) (h1 : x = y → hm_T d M t ls r hp Q) (h2 : ¬ (x = y) → hm_T d M (pc + 3) ls r hp Q) : hm_T d M pc ls (.int y :: .int x :: r) hp Q := by
  by_cases hc : x = y
  · exact hm_T.of hI (fun _ => rfl) (fun q2 _ => hm_sel4 rfl rfl rfl (by show (hm_jmp pc off).map _ = _; rw [ht]; show some (if x = y then _ else _) = _; rw [if_pos hc])) (h1 hc)
  · exact hm_T.of hI (fun _ => rfl) (fun q2 _ => hm_sel4 rfl rfl rfl (by show (hm_jmp pc off).map _ = _; rw [ht]; show some (if x = y then _ else _) = _; rw [if_neg hc])) (h2 hc)
theorem r_icmp_ne {x y : Int32} {off : Int} {t : Nat} (hI : hm_code M pc = some (.if_icmp .ne off)) (ht : hm_jmp pc off = some t) (h1 : ¬ x = y → hm_T d M t ls r hp Q) (h2 : ¬ (¬ x = y) → hm_T d M (pc + 3) ls r hp Q) : hm_T d M pc ls (.int y :: .int x :: r) hp Q := by
  by_cases hc : ¬ x = y
  · exact hm_T.of hI (fun _ => rfl) (fun q2 _ => hm_sel4 rfl rfl rfl (by show (hm_jmp pc off).map _ = _; rw [ht]; show some (if ¬ x = y then _ else _) = _; rw [if_pos hc])) (h1 hc)
  · exact hm_T.of hI (fun _ => rfl) (fun q2 _ => hm_sel4 rfl rfl rfl (by show (hm_jmp pc off).map _ = _; rw [ht]; show some (if ¬ x = y then _ else _) = _; rw [if_neg hc])) (h2 hc)
theorem r_icmp_lt {x y : Int32} {off : Int} {t : Nat} (hI : hm_code M pc = some (.if_icmp .lt off)) (ht : hm_jmp pc off = some t) (h1 : x < y → hm_T d M t ls r hp Q) (h2 : ¬ (x < y) → hm_T d M (pc + 3) ls r hp Q) : hm_T d M pc ls (.int y :: .int x :: r) hp Q := by
  by_cases hc : x < y
  · exact hm_T.of hI (fun _ => rfl) (fun q2 _ => hm_sel4 rfl rfl rfl (by show (hm_jmp pc off).map _ = _; rw [ht]; show some (if x < y then _ else _) = _; rw [if_pos hc])) (h1 hc)
  · exact hm_T.of hI (fun _ => rfl) (fun q2 _ => hm_sel4 rfl rfl rfl (by show (hm_jmp pc off).map _ = _; rw [ht]; show some (if x < y then _ else _) = _; rw [if_neg hc])) (h2 hc)
theorem r_icmp_ge {x y : Int32} {off : Int} {t : Nat} (hI : hm_code M pc = some (.if_icmp .ge off)) (ht : hm_jmp pc off = some t) (h1 : y ≤ x → hm_T d M t ls r hp Q) (h2 : ¬ (y ≤ x) → hm_T d M (pc + 3) ls r hp Q) : hm_T d M pc ls (.int y :: .int x :: r) hp Q := by
  by_cases hc : y ≤ x
  · exact hm_T.of hI (fun _ => rfl) (fun q2 _ => hm_sel4 rfl rfl rfl (by show (hm_jmp pc off).map _ = _; rw [ht]; show some (if y ≤ x then _ else _) = _; rw [if_pos hc])) (h1 hc)
  · exact hm_T.of hI (fun _ => rfl) (fun q2 _ => hm_sel4 rfl rfl rfl (by show (hm_jmp pc off).map _ = _; rw [ht]; show some (if y ≤ x then _ else _) = _; rw [if_neg hc])) (h2 hc)
theorem r_icmp_gt {x y : Int32} {off : Int} {t : Nat} (hI : hm_code M pc = some (.if_icmp .gt off)) (ht : hm_jmp pc off = some t) (h1 : y < x → hm_T d M t ls r hp Q) (h2 : ¬ (y < x) → hm_T d M (pc + 3) ls r hp Q) : hm_T d M pc ls (.int y :: .int x :: r) hp Q := by
  by_cases hc : y < x
  · exact hm_T.of hI (fun _ => rfl) (fun q2 _ => hm_sel4 rfl rfl rfl (by show (hm_jmp pc off).map _ = _; rw [ht]; show some (if y < x then _ else _) = _; rw [if_pos hc])) (h1 hc)
  · exact hm_T.of hI (fun _ => rfl) (fun q2 _ => hm_sel4 rfl rfl rfl (by show (hm_jmp pc off).map _ = _; rw [ht]; show some (if y < x then _ else _) = _; rw [if_neg hc])) (h2 hc)
theorem r_icmp_le {x y : Int32} {off : Int} {t : Nat} (hI : hm_code M pc = some (.if_icmp .le off)) (ht : hm_jmp pc off = some t) (h1 : x ≤ y → hm_T d M t ls r hp Q) (h2 : ¬ (x ≤ y) → hm_T d M (pc + 3) ls r hp Q) : hm_T d M pc ls (.int y :: .int x :: r) hp Q := by
  by_cases hc : x ≤ y
  · exact hm_T.of hI (fun _ => rfl) (fun q2 _ => hm_sel4 rfl rfl rfl (by show (hm_jmp pc off).map _ = _; rw [ht]; show some (if x ≤ y then _ else _) = _; rw [if_pos hc])) (h1 hc)
  · exact hm_T.of hI (fun _ => rfl) (fun q2 _ => hm_sel4 rfl rfl rfl (by show (hm_jmp pc off).map _ = _; rw [ht]; show some (if x ≤ y then _ else _) = _; rw [if_neg hc])) (h2 hc)
theorem r_ifnullN {off : Int} {t : Nat} (hI : hm_code M pc = some (.ifnull off)) (ht : hm_jmp pc off = some t) (h : hm_T d M t ls r hp Q) : hm_T d M pc ls (.null :: r) hp Q :=
  hm_T.of hI (fun _ => rfl) (fun q2 _ => hm_sel4 rfl rfl rfl (by show hm_to pc off ls r hp = _; unfold hm_to; rw [ht]; rfl)) h
theorem r_ifnull {off : Int} {a : Nat} (hI : hm_code M pc = some (.ifnull off)) (h : hm_T d M (pc + 3) ls r hp Q) : hm_T d M pc ls (.ref a :: r) hp Q :=
  hm_T.of hI (fun _ => rfl) (fun q2 _ => hm_sel4 rfl rfl rfl (rfl)) h
theorem r_ifnonnull {off : Int} {t a : Nat} (hI : hm_code M pc = some (.ifnonnull off)) (ht : hm_jmp pc off = some t) (h : hm_T d M t ls r hp Q) : hm_T d M pc ls (.ref a :: r) hp Q :=
  hm_T.of hI (fun _ => rfl) (fun q2 _ => hm_sel4 rfl rfl rfl (by show hm_to pc off ls r hp = _; unfold hm_to; rw [ht]; rfl)) h
theorem r_ifnonnullN {off : Int} (hI : hm_code M pc = some (.ifnonnull off)) (h : hm_T d M (pc + 3) ls r hp Q) : hm_T d M pc ls (.null :: r) hp Q :=
  hm_T.of hI (fun _ => rfl) (fun q2 _ => hm_sel4 rfl rfl rfl (rfl)) h
theorem r_acmp_eq {off : Int} {t a : Nat} (hI : hm_code M pc = some (.if_acmp .eq off)) (ht : hm_jmp pc off = some t) (h : hm_T d M t ls r hp Q) : hm_T d M pc ls (.ref a :: .ref a :: r) hp Q :=
  hm_T.of hI (fun _ => rfl) (fun q2 _ => hm_sel4 rfl rfl rfl (by show (if a = a then hm_to pc off ls r hp else none) = _; rw [if_pos rfl]; unfold hm_to; rw [ht]; rfl)) h
theorem r_tableOut {df lo hi : Int} {offs : Array Int} {t : Nat} {x : Int32} (hI : hm_code M pc = some (.tableswitch df lo hi offs)) (hx : x.toInt < lo ∨ hi < x.toInt) (ht : hm_jmp pc df = some t) (h : hm_T d M t ls r hp Q) : hm_T d M pc ls (.int x :: r) hp Q :=
  hm_T.of hI (fun _ => rfl) (fun q2 _ => hm_sel4 rfl rfl rfl (by show (if x.toInt < lo ∨ hi < x.toInt then hm_to pc df ls r hp else _) = _; rw [if_pos hx]; unfold hm_to; rw [ht]; rfl)) h
theorem r_tableIn {df lo hi off : Int} {offs : Array Int} {t : Nat} {x : Int32} (hI : hm_code M pc = some (.tableswitch df lo hi offs)) (hx : ¬ (x.toInt < lo ∨ hi < x.toInt)) (ho : offs[(x.toInt - lo).toNat]? = some off) (ht : hm_jmp pc off = some t) (h : hm_T d M t ls r hp Q) : hm_T d M pc ls (.int x :: r) hp Q :=
  hm_T.of hI (fun _ => rfl) (fun q2 _ => hm_sel4 rfl rfl rfl (by show (if x.toInt < lo ∨ hi < x.toInt then _ else match offs[(x.toInt - lo).toNat]? with | some off => hm_to pc off ls r hp | none => none) = _; rw [if_neg hx, ho]; show hm_to pc off ls r hp = _; unfold hm_to; rw [ht]; rfl)) h
theorem r_lookup {df off : Int} {ps : Array (Int × Int)} {t : Nat} {x : Int32} (hI : hm_code M pc = some (.lookupswitch df ps)) (hp0 : (ps.toList.zip (ps.toList.drop 1)).all (fun (a, next) => a.1 < next.1) = true) (ho : Op.lookupswitch.offset ps.toList df x.toInt = off) (ht : hm_jmp pc off = some t) (h : hm_T d M t ls r hp Q) : hm_T d M pc ls (.int x :: r) hp Q :=
  hm_T.of hI (fun _ => rfl) (fun q2 _ => hm_sel4 rfl rfl rfl (by show (if (ps.toList.zip (ps.toList.drop 1)).all (fun (a, next) => a.1 < next.1) = true then hm_to pc (Op.lookupswitch.offset ps.toList df x.toInt) ls r hp else none) = _; rw [if_pos hp0, ho]; unfold hm_to; rw [ht]; rfl)) h
theorem r_get {ix ci k md w a : Nat} {fs : List Value} {v : Value} (hq : hm_mtab[M]? = some q) (hI : hm_code M pc = some (.getfield ix)) (hf : hm_ftab.lookup (q.2.2.2.2.1, ix) = some (ci, k, md, w)) (ha : hp.1 a = some (.inr (ci, fs))) (hv : fs[k]? = some v) (h : hm_T d M (pc + 3) ls (v :: r) hp Q) : hm_T d M pc ls (.ref a :: r) hp Q :=
  hm_T.of hI (fun _ => rfl) (fun q2 hq2 => by
    cases hq.symm.trans hq2
    exact hm_sel5 rfl rfl rfl rfl (by unfold hm_s5; dsimp only; rw [hf, ha]; dsimp only; rw [if_pos rfl, hv]; rfl)) h
theorem r_iald {t n a : Nat} {j : Int32} {f : Nat → Int32} (hI : hm_code M pc = some (.iaload)) (ha : hp.1 a = some (.inl (t, n, .inl f))) (ht : t = 0 ∨ t = 100) (hj : ¬ (j < 0 ∨ n ≤ j.toNatClampNeg)) (h : hm_T d M (pc + 1) ls (.int (f j.toNatClampNeg) :: r) hp Q) : hm_T d M pc ls (.int j :: .ref a :: r) hp Q :=
  hm_T.of hI (fun _ => rfl) (fun q2 _ => hm_sel5 rfl rfl rfl rfl (by unfold hm_s5; dsimp only; rw [ha]; dsimp only; exact if_pos ⟨ht, hj⟩)) h
theorem r_bald {t n a : Nat} {j : Int32} {f : Nat → Int32} (hI : hm_code M pc = some (.baload)) (ha : hp.1 a = some (.inl (t, n, .inl f))) (ht : t = 2) (hj : ¬ (j < 0 ∨ n ≤ j.toNatClampNeg)) (h : hm_T d M (pc + 1) ls (.int (f j.toNatClampNeg) :: r) hp Q) : hm_T d M pc ls (.int j :: .ref a :: r) hp Q :=
  hm_T.of hI (fun _ => rfl) (fun q2 _ => hm_sel5 rfl rfl rfl rfl (by unfold hm_s5; dsimp only; rw [ha]; dsimp only; exact if_pos ⟨ht, hj⟩)) h
theorem r_lald {t n a : Nat} {j : Int32} {f : Nat → Int64} (hI : hm_code M pc = some (.laload)) (ha : hp.1 a = some (.inl (t, n, .inr (.inl f)))) (ht : t = 1) (hj : ¬ (j < 0 ∨ n ≤ j.toNatClampNeg)) (h : hm_T d M (pc + 1) ls (.long (f j.toNatClampNeg) :: r) hp Q) : hm_T d M pc ls (.int j :: .ref a :: r) hp Q :=
  hm_T.of hI (fun _ => rfl) (fun q2 _ => hm_sel5 rfl rfl rfl rfl (by unfold hm_s5; dsimp only; rw [ha]; dsimp only; exact if_pos ⟨ht, hj⟩)) h
theorem r_aald {t n a : Nat} {j : Int32} {f : Nat → Option Nat} (hI : hm_code M pc = some (.aaload)) (ha : hp.1 a = some (.inl (t, n, .inr (.inr (.inr (.inr f)))))) (ht : t = 3 ∨ t = 4 ∨ t = 5 ∨ t = 6) (hj : ¬ (j < 0 ∨ n ≤ j.toNatClampNeg)) (h : hm_T d M (pc + 1) ls (va_rf (f j.toNatClampNeg) :: r) hp Q) : hm_T d M pc ls (.int j :: .ref a :: r) hp Q :=
  hm_T.of hI (fun _ => rfl) (fun q2 _ => hm_sel5 rfl rfl rfl rfl (by unfold hm_s5; dsimp only; rw [ha]; dsimp only; exact if_pos ⟨ht, hj⟩)) h
theorem r_alen {t n a : Nat} {y : (Nat → Int32) ⊕ (Nat → Int64) ⊕ (Nat → UInt32) ⊕ (Nat → UInt64) ⊕ (Nat → Option Nat)} {v : Int32} (hI : hm_code M pc = some (.arraylength)) (ha : hp.1 a = some (.inl (t, n, y))) (hv : Int32.ofNat n = v) (h : hm_T d M (pc + 1) ls (.int v :: r) hp Q) : hm_T d M pc ls (.ref a :: r) hp Q :=
  hm_T.of hI (fun _ => rfl) (fun q2 _ => hm_sel5 rfl rfl rfl rfl (by unfold hm_s5; dsimp only; rw [ha, ← hv])) h
theorem r_gets {ix j w : Nat} (hq : hm_mtab[M]? = some q) (hI : hm_code M pc = some (.getstatic ix)) (hf : hm_stab.lookup (q.2.2.2.2.1, ix) = some (j, w)) (h : hm_T d M (pc + 3) ls (.ref j :: st) hp Q) : hm_T d M pc ls st hp Q :=
  hm_T.of hI (fun _ => rfl) (fun q2 hq2 => by
    cases hq.symm.trans hq2
    exact hm_sel5 rfl rfl rfl rfl (by unfold hm_s5; dsimp only; rw [hf]; rfl)) h
theorem r_castN {ix : Nat} (hI : hm_code M pc = some (.checkcast ix)) (h : hm_T d M (pc + 3) ls (.null :: r) hp Q) : hm_T d M pc ls (.null :: r) hp Q :=
  hm_T.of hI (fun _ => rfl) (fun q2 _ => hm_sel5 rfl rfl rfl rfl (rfl)) h
theorem r_cast {ix ci w a : Nat} {fs : List Value} (hq : hm_mtab[M]? = some q) (hI : hm_code M pc = some (.checkcast ix)) (hf : hm_ntab.lookup (q.2.2.2.2.1, ix) = some (ci, w)) (ha : hp.1 a = some (.inr (ci, fs))) (h : hm_T d M (pc + 3) ls (.ref a :: r) hp Q) : hm_T d M pc ls (.ref a :: r) hp Q :=
  hm_T.of hI (fun _ => rfl) (fun q2 hq2 => by
    cases hq.symm.trans hq2
    exact hm_sel5 rfl rfl rfl rfl (by unfold hm_s5; dsimp only; rw [hf, ha]; exact if_pos rfl)) h
theorem r_ldc {ix w : Nat} {v : Int32} (hq : hm_mtab[M]? = some q) (hI : hm_code M pc = some (.ldc ix)) (hf : hm_itab.lookup (q.2.2.2.2.1, ix) = some (v, w)) (h : hm_T d M (pc + 2) ls (.int v :: st) hp Q) : hm_T d M pc ls st hp Q :=
  hm_T.of hI (fun _ => rfl) (fun q2 hq2 => by
    cases hq.symm.trans hq2
    exact hm_sel5 rfl rfl rfl rfl (by unfold hm_s5; dsimp only; rw [hf]; rfl)) h
theorem r_ldc_w {ix w : Nat} {v : Int32} (hq : hm_mtab[M]? = some q) (hI : hm_code M pc = some (.ldc_w ix)) (hf : hm_itab.lookup (q.2.2.2.2.1, ix) = some (v, w)) (h : hm_T d M (pc + 3) ls (.int v :: st) hp Q) : hm_T d M pc ls st hp Q :=
  hm_T.of hI (fun _ => rfl) (fun q2 hq2 => by
    cases hq.symm.trans hq2
    exact hm_sel5 rfl rfl rfl rfl (by unfold hm_s5; dsimp only; rw [hf]; rfl)) h
theorem r_ldc2_w {ix w : Nat} {v : Int64} (hq : hm_mtab[M]? = some q) (hI : hm_code M pc = some (.ldc2_w ix)) (hf : hm_ltab.lookup (q.2.2.2.2.1, ix) = some (v, w)) (h : hm_T d M (pc + 3) ls (.long v :: st) hp Q) : hm_T d M pc ls st hp Q :=
  hm_T.of hI (fun _ => rfl) (fun q2 hq2 => by
    cases hq.symm.trans hq2
    exact hm_sel5 rfl rfl rfl rfl (by unfold hm_s5; dsimp only; rw [hf]; rfl)) h
theorem r_put {ix ci k md w a : Nat} {fs : List Value} {v : Value} (hq : hm_mtab[M]? = some q) (hI : hm_code M pc = some (.putfield ix)) (hf : hm_ftab.lookup (q.2.2.2.2.1, ix) = some (ci, k, md, w)) (ha : hp.1 a = some (.inr (ci, fs))) (hk : k < fs.length) (hv : hm_fv (hm_fty ci k) v = true) (hn : hm_fin q ci k = true) (he : hm_set hp a (.inr (ci, fs.set k v)) = hp2) (h : hm_T d M (pc + 3) ls r hp2 Q) : hm_T d M pc ls (v :: .ref a :: r) hp Q :=
  hm_T.of hI (fun _ => rfl) (fun q2 hq2 => by
    cases hq.symm.trans hq2
    exact hm_sel6 rfl rfl rfl rfl rfl (by unfold hm_s6; dsimp only; rw [hf, ha]; dsimp only; rw [if_pos ⟨⟨rfl, hk⟩, hv, hn⟩, he])) h
theorem r_iast {t n a : Nat} {j : Int32} {x : Int32} {f : Nat → Int32} (hI : hm_code M pc = some (.iastore)) (ha : hp.1 a = some (.inl (t, n, .inl f))) (ht : t = 0) (hj : ¬ (j < 0 ∨ n ≤ j.toNatClampNeg)) (he : hm_set hp a (.inl (t, n, .inl (upd f j.toNatClampNeg x))) = hp2) (h : hm_T d M (pc + 1) ls r hp2 Q) : hm_T d M pc ls (.int x :: .int j :: .ref a :: r) hp Q :=
  hm_T.of hI (fun _ => rfl) (fun q2 _ => hm_sel6 rfl rfl rfl rfl rfl (by unfold hm_s6; dsimp only; rw [ha]; dsimp only; rw [if_pos ⟨ht, hj⟩, he])) h
theorem r_bast {t n a : Nat} {j : Int32} {x : Int32} {f : Nat → Int32} (hI : hm_code M pc = some (.bastore)) (ha : hp.1 a = some (.inl (t, n, .inl f))) (ht : t = 2 ∧ (x = 0 ∨ x = 1)) (hj : ¬ (j < 0 ∨ n ≤ j.toNatClampNeg)) (he : hm_set hp a (.inl (t, n, .inl (upd f j.toNatClampNeg x))) = hp2) (h : hm_T d M (pc + 1) ls r hp2 Q) : hm_T d M pc ls (.int x :: .int j :: .ref a :: r) hp Q :=
  hm_T.of hI (fun _ => rfl) (fun q2 _ => hm_sel6 rfl rfl rfl rfl rfl (by unfold hm_s6; dsimp only; rw [ha]; dsimp only; rw [if_pos ⟨ht, hj⟩, he])) h
theorem r_last {t n a : Nat} {j : Int32} {x : Int64} {f : Nat → Int64} (hI : hm_code M pc = some (.lastore)) (ha : hp.1 a = some (.inl (t, n, .inr (.inl f)))) (ht : t = 1) (hj : ¬ (j < 0 ∨ n ≤ j.toNatClampNeg)) (he : hm_set hp a (.inl (t, n, .inr (.inl (vp_updL f j.toNatClampNeg x)))) = hp2) (h : hm_T d M (pc + 1) ls r hp2 Q) : hm_T d M pc ls (.long x :: .int j :: .ref a :: r) hp Q :=
  hm_T.of hI (fun _ => rfl) (fun q2 _ => hm_sel6 rfl rfl rfl rfl rfl (by unfold hm_s6; dsimp only; rw [ha]; dsimp only; rw [if_pos ⟨ht, hj⟩, he])) h
theorem r_aast {t n a b cj : Nat} {j : Int32} {f : Nat → Option Nat} {fs : List Value} (hI : hm_code M pc = some (.aastore)) (ha : hp.1 a = some (.inl (t, n, .inr (.inr (.inr (.inr f)))))) (hb : hp.1 b = some (.inr (cj, fs))) (ht : (t = 5 ∧ cj = 2) ∨ (t = 6 ∧ cj < 10)) (hj : ¬ (j < 0 ∨ n ≤ j.toNatClampNeg)) (he : hm_set hp a (.inl (t, n, .inr (.inr (.inr (.inr (va_up f j.toNatClampNeg (some b))))))) = hp2) (h : hm_T d M (pc + 1) ls r hp2 Q) : hm_T d M pc ls (.ref b :: .int j :: .ref a :: r) hp Q :=
  hm_T.of hI (fun _ => rfl) (fun q2 _ => hm_sel6 rfl rfl rfl rfl rfl (by unfold hm_s6; dsimp only; rw [ha, hb]; dsimp only; rw [if_pos ⟨ht, hj⟩, he])) h
theorem r_new {ix ci w : Nat} (hq : hm_mtab[M]? = some q) (hI : hm_code M pc = some (.new ix)) (hf : hm_ntab.lookup (q.2.2.2.2.1, ix) = some (ci, w)) (hci : ci < 10) (he : hm_push hp (.inr (ci, hm_df ci)) (hm_df ci).length = hp2) (h : hm_T d M (pc + 3) ls (.ref (hp.2.1 + 4) :: st) hp2 Q) : hm_T d M pc ls st hp Q :=
  hm_T.of hI (fun _ => rfl) (fun q2 hq2 => by
    cases hq.symm.trans hq2
    exact hm_sel7 rfl rfl rfl rfl rfl rfl (by unfold hm_s7; dsimp only; rw [hf]; dsimp only; rw [if_pos hci, he])) h
theorem r_newa_int {n : Int32} {N : Nat} (hI : hm_code M pc = some (.newarray .int)) (hn : ¬ n < 0) (hN : n.toNatClampNeg = N) (hm : N ≤ 100000) (he : hm_push hp (.inl (0, N, .inl (fun _ => 0))) N = hp2) (h : hm_T d M (pc + 2) ls (.ref (hp.2.1 + 4) :: r) hp2 Q) : hm_T d M pc ls (.int n :: r) hp Q :=
  hm_T.of hI (fun _ => rfl) (fun q2 _ => hm_sel7 rfl rfl rfl rfl rfl rfl (by subst hN; unfold hm_s7; dsimp only; rw [if_pos ⟨hn, hm⟩, he])) h
theorem r_newa_long {n : Int32} {N : Nat} (hI : hm_code M pc = some (.newarray .long)) (hn : ¬ n < 0) (hN : n.toNatClampNeg = N) (hm : N ≤ 100000) (he : hm_push hp (.inl (1, N, .inr (.inl (fun _ => 0)))) N = hp2) (h : hm_T d M (pc + 2) ls (.ref (hp.2.1 + 4) :: r) hp2 Q) : hm_T d M pc ls (.int n :: r) hp Q :=
  hm_T.of hI (fun _ => rfl) (fun q2 _ => hm_sel7 rfl rfl rfl rfl rfl rfl (by subst hN; unfold hm_s7; dsimp only; rw [if_pos ⟨hn, hm⟩, he])) h
theorem r_newa_boolean {n : Int32} {N : Nat} (hI : hm_code M pc = some (.newarray .boolean)) (hn : ¬ n < 0) (hN : n.toNatClampNeg = N) (hm : N ≤ 100000) (he : hm_push hp (.inl (2, N, .inl (fun _ => 0))) N = hp2) (h : hm_T d M (pc + 2) ls (.ref (hp.2.1 + 4) :: r) hp2 Q) : hm_T d M pc ls (.int n :: r) hp Q :=
  hm_T.of hI (fun _ => rfl) (fun q2 _ => hm_sel7 rfl rfl rfl rfl rfl rfl (by subst hN; unfold hm_s7; dsimp only; rw [if_pos ⟨hn, hm⟩, he])) h
theorem r_anew {n : Int32} {N ix ci w t : Nat} (hq : hm_mtab[M]? = some q) (hI : hm_code M pc = some (.anewarray ix)) (hf : hm_ntab.lookup (q.2.2.2.2.1, ix) = some (ci, w)) (hci : ci = 2 ∨ ci = 22) (ht : (if ci = 2 then 5 else 6) = t) (hn : ¬ n < 0) (hN : n.toNatClampNeg = N) (hm : N ≤ 100000) (he : hm_push hp (.inl (t, N, .inr (.inr (.inr (.inr (fun _ => none)))))) N = hp2) (h : hm_T d M (pc + 3) ls (.ref (hp.2.1 + 4) :: r) hp2 Q) : hm_T d M pc ls (.int n :: r) hp Q :=
  hm_T.of hI (fun _ => rfl) (fun q2 hq2 => by
    cases hq.symm.trans hq2
    exact hm_sel7 rfl rfl rfl rfl rfl rfl (by subst hN; subst ht; unfold hm_s7; dsimp only; rw [hf]; dsimp only; rw [if_pos ⟨hci, hn, hm⟩, he])) h
theorem r_mna_int {n k : Int32} {N K ix w : Nat} (hq : hm_mtab[M]? = some q) (hI : hm_code M pc = some (.multianewarray ix 2)) (hf : hm_ntab.lookup (q.2.2.2.2.1, ix) = some (20, w)) (hn : ¬ n < 0) (hN : n.toNatClampNeg = N) (hm : N ≤ 100000) (hk : ¬ k < 0) (hK : k.toNatClampNeg = K) (hm2 : K ≤ 100000) (he : hm_grid hp 0 N K (K, .inl (fun _ => 0)) = hp2) (h : hm_T d M (pc + 4) ls (.ref (hp.2.1 + 4) :: r) hp2 Q) : hm_T d M pc ls (.int k :: .int n :: r) hp Q :=
  hm_T.of hI (fun _ => rfl) (fun q2 hq2 => by
    cases hq.symm.trans hq2
    exact hm_sel7 rfl rfl rfl rfl rfl rfl (by subst hN; subst hK; unfold hm_s7; dsimp only; rw [hf]; dsimp only; rw [if_pos ⟨rfl, ⟨hn, hm⟩, hk, hm2⟩]; rw [if_pos rfl]; rw [he])) h
theorem r_mna_long {n k : Int32} {N K ix w : Nat} (hq : hm_mtab[M]? = some q) (hI : hm_code M pc = some (.multianewarray ix 2)) (hf : hm_ntab.lookup (q.2.2.2.2.1, ix) = some (21, w)) (hn : ¬ n < 0) (hN : n.toNatClampNeg = N) (hm : N ≤ 100000) (hk : ¬ k < 0) (hK : k.toNatClampNeg = K) (hm2 : K ≤ 100000) (he : hm_grid hp 1 N K (K, .inr (.inl (fun _ => 0))) = hp2) (h : hm_T d M (pc + 4) ls (.ref (hp.2.1 + 4) :: r) hp2 Q) : hm_T d M pc ls (.int k :: .int n :: r) hp Q :=
  hm_T.of hI (fun _ => rfl) (fun q2 hq2 => by
    cases hq.symm.trans hq2
    exact hm_sel7 rfl rfl rfl rfl rfl rfl (by subst hN; subst hK; unfold hm_s7; dsimp only; rw [hf]; dsimp only; rw [if_pos ⟨rfl, ⟨hn, hm⟩, hk, hm2⟩]; rw [if_neg (by decide), if_pos rfl]; rw [he])) h
theorem r_obj {ix w a : Nat} (hq : hm_mtab[M]? = some q) (hI : hm_code M pc = some (.invokespecial ix)) (hf : hm_ctab.lookup (q.2.2.2.2.1, ix) = some (1, 0, w)) (hr : r.length ≤ 4) (h : hm_T d M (pc + 3) ls r hp Q) : hm_T d M pc ls (.ref a :: r) hp Q :=
  hm_T.of hI (fun _ => rfl) (fun q2 hq2 => by
    cases hq.symm.trans hq2
    exact hm_sel8 rfl rfl rfl rfl rfl rfl rfl (by unfold hm_s8; dsimp only; rw [hf]; dsimp only; exact if_pos ⟨⟨rfl, rfl⟩, hr⟩)) h
end HT
