/-! the counts of cells and slots never fall -/
theorem hm_s1_hp {i : Instr} {pc : Nat} {ls st : List Value} {hp : hm_H} {σ : hm_S} (h : hm_s1 i pc ls st hp = some σ) : σ.2.2.2 = hp := by
  unfold hm_s1 at h
  split at h <;> first | (cases h; rfl) | (split at h <;> first | (cases h; rfl) | cases h) | cases h
theorem hm_s2_hp {i : Instr} {pc : Nat} {ls st : List Value} {hp : hm_H} {σ : hm_S} (h : hm_s2 i pc ls st hp = some σ) : σ.2.2.2 = hp := by
  unfold hm_s2 at h
  split at h <;> first | (cases h; rfl) | (split at h <;> first | (cases h; rfl) | cases h) | cases h
theorem hm_map_hp {α : Type} {o : Option α} {f : α → hm_S} {hp : hm_H} {σ : hm_S} (h : o.map f = some σ) (hf : ∀ x, (f x).2.2.2 = hp) : σ.2.2.2 = hp := by
  obtain ⟨x, -, h2⟩ := Option.map_eq_some_iff.mp h
  rw [← h2]
  exact hf x
theorem hm_s3_hp {i : Instr} {pc : Nat} {ls st : List Value} {hp : hm_H} {σ : hm_S} (h : hm_s3 i pc ls st hp = some σ) : σ.2.2.2 = hp := by
  unfold hm_s3 hm_ldi hm_ldl hm_lda at h
  split at h <;> first | exact hm_map_hp h (fun _ => rfl) | (split at h <;> first | exact hm_map_hp h (fun _ => rfl) | (cases h; rfl) | cases h) | cases h
theorem hm_s4_hp {i : Instr} {pc : Nat} {ls st : List Value} {hp : hm_H} {σ : hm_S} (h : hm_s4 i pc ls st hp = some σ) : σ.2.2.2 = hp := by
  unfold hm_s4 hm_to at h
  split at h <;> first | exact hm_map_hp h (fun _ => rfl) | exact hm_map_hp h (fun _ => by split <;> rfl) | (cases h; rfl) | (split at h <;> first | exact hm_map_hp h (fun _ => rfl) | (cases h; rfl) | (split at h <;> first | exact hm_map_hp h (fun _ => rfl) | cases h) | cases h) | cases h
theorem hm_s5_hp {cid : Nat} {i : Instr} {pc : Nat} {ls st : List Value} {hp : hm_H} {σ : hm_S} (h : hm_s5 cid i pc ls st hp = some σ) : σ.2.2.2 = hp := by
  unfold hm_s5 at h
  split at h <;> first | exact hm_map_hp h (fun _ => rfl) | (cases h; rfl) | (split at h <;> first | (cases h; rfl) | (split at h <;> first | exact hm_map_hp h (fun _ => rfl) | (cases h; rfl) | cases h) | cases h) | cases h
theorem hm_s6_hp {q : hm_Q} {i : Instr} {pc : Nat} {ls st : List Value} {hp : hm_H} {σ : hm_S} (h : hm_s6 q i pc ls st hp = some σ) : σ.2.2.2.2 = hp.2 := by
  unfold hm_s6 at h
  split at h <;> first | (split at h <;> first | (split at h <;> first | (cases h; rfl) | cases h) | cases h) | cases h
theorem hm_s8_hp {cid : Nat} {i : Instr} {pc : Nat} {ls st : List Value} {hp : hm_H} {σ : hm_S} (h : hm_s8 cid i pc ls st hp = some σ) : σ.2.2.2 = hp := by
  unfold hm_s8 at h
  split at h <;> first | (split at h <;> first | (split at h <;> first | (cases h; rfl) | cases h) | cases h) | cases h
def hm_le (hp hp2 : hm_H) : Prop := hp.2.1 ≤ hp2.2.1 ∧ hp.2.2 ≤ hp2.2.2
theorem hm_push_le (hp : hm_H) (e : va_E) (n : Nat) : hm_le hp (hm_push hp e n) := ⟨Nat.le_add_right _ _, Nat.le_add_right _ _⟩
theorem hm_grid_le (hp : hm_H) (t n k : Nat) (z : vp_A) : hm_le hp (hm_grid hp t n k z) := ⟨by show hp.2.1 ≤ hp.2.1 + 1 + n; omega, by show hp.2.2 ≤ hp.2.2 + n + n * k; omega⟩
theorem hm_s7_le {cid : Nat} {i : Instr} {pc : Nat} {ls st : List Value} {hp : hm_H} {σ : hm_S} (h : hm_s7 cid i pc ls st hp = some σ) : hm_le hp σ.2.2.2 := by
  unfold hm_s7 at h
  split at h <;> first | (split at h <;> first | (cases h; exact hm_push_le _ _ _) | (split at h <;> first | (cases h; exact hm_push_le _ _ _) | (split at h <;> first | (cases h; exact hm_grid_le _ _ _ _ _) | (split at h <;> first | (cases h; exact hm_grid_le _ _ _ _ _) | cases h) | cases h) | cases h) | cases h) | cases h
theorem hm_step_cases {q : hm_Q} {i : Instr} {pc : Nat} {ls st : List Value} {hp : hm_H} {σ : hm_S} (h : hm_step q i pc ls st hp = some σ) : hm_s1 i pc ls st hp = some σ ∨ hm_s2 i pc ls st hp = some σ ∨ hm_s3 i pc ls st hp = some σ ∨ hm_s4 i pc ls st hp = some σ ∨ hm_s5 q.2.2.2.2.1 i pc ls st hp = some σ ∨ hm_s6 q i pc ls st hp = some σ ∨ hm_s7 q.2.2.2.2.1 i pc ls st hp = some σ ∨ hm_s8 q.2.2.2.2.1 i pc ls st hp = some σ := by
  unfold hm_step at h
  simp only [Option.or_eq_some_iff] at h
  rcases h with h | ⟨-, h | ⟨-, h | ⟨-, h | ⟨-, h | ⟨-, h | ⟨-, h | ⟨-, h⟩⟩⟩⟩⟩⟩⟩
  · exact Or.inl h
  · exact Or.inr (Or.inl h)
  · exact Or.inr (Or.inr (Or.inl h))
  · exact Or.inr (Or.inr (Or.inr (Or.inl h)))
  · exact Or.inr (Or.inr (Or.inr (Or.inr (Or.inl h))))
  · exact Or.inr (Or.inr (Or.inr (Or.inr (Or.inr (Or.inl h)))))
  · exact Or.inr (Or.inr (Or.inr (Or.inr (Or.inr (Or.inr (Or.inl h))))))
  · exact Or.inr (Or.inr (Or.inr (Or.inr (Or.inr (Or.inr (Or.inr h))))))
theorem hm_step_le {q : hm_Q} {i : Instr} {pc : Nat} {ls st : List Value} {hp : hm_H} {σ : hm_S} (h : hm_step q i pc ls st hp = some σ) : hm_le hp σ.2.2.2 := by
  have same : σ.2.2.2.2 = hp.2 → hm_le hp σ.2.2.2 := fun e => ⟨by rw [e]; exact Nat.le_refl _, by rw [e]; exact Nat.le_refl _⟩
  rcases hm_step_cases h with h | h | h | h | h | h | h | h
  · exact same (by rw [hm_s1_hp h])
  · exact same (by rw [hm_s2_hp h])
  · exact same (by rw [hm_s3_hp h])
  · exact same (by rw [hm_s4_hp h])
  · exact same (by rw [hm_s5_hp h])
  · exact same (hm_s6_hp h)
  · exact hm_s7_le h
  · exact same (by rw [hm_s8_hp h])
theorem hm_cpy_le {q : hm_Q} {i : Instr} {st : List Value} {hp hp2 : hm_H} {a : Nat} {rest : List Value} (h : hm_cpy q i st hp = some (a, rest, hp2)) : hm_le hp hp2 := by
  unfold hm_cpy at h
  split at h
  · split at h
    · split at h
      · cases h
        exact hm_push_le _ _ _
      · cases h
    · cases h
  · cases h
theorem hm_le.trans {a b c : hm_H} (h1 : hm_le a b) (h2 : hm_le b c) : hm_le a c := ⟨Nat.le_trans h1.1 h2.1, Nat.le_trans h1.2 h2.2⟩
/-- one step of a run, told by what it does -/
theorem hm_run_cases {f d M pc : Nat} {ls st : List Value} {hp hp2 : hm_H} {r : Option Value} (h : hm_run (f + 1) d M pc ls st hp = some (r, hp2)) : ∃ (q : hm_Q) (i : Instr), hm_mtab[M]? = some q ∧ hm_code M pc = some i ∧
    ((hm_ret i q.2.2.2.1 st = some r ∧ hp = hp2) ∨
     (∃ σ : hm_S, hm_step q i pc ls st hp = some σ ∧ hm_run f d M σ.1 σ.2.1 σ.2.2.1 σ.2.2.2 = some (r, hp2)) ∨
     (∃ (d2 c : Nat) (as rest l0 : List Value) (r1 : Option Value) (hp1 : hm_H), d = d2 + 1 ∧ hm_cal q i st hp = some (c, as, rest) ∧ hm_ent c as = some l0 ∧ hm_run f d2 c 0 l0 [] hp = some (r1, hp1) ∧ hm_run f d M (pc + 3) ls (r1.toList ++ rest) hp1 = some (r, hp2)) ∨
     (∃ (d2 a : Nat) (rest : List Value) (hp1 : hm_H), d = d2 + 1 ∧ 4 ≤ d2 ∧ hm_cpy q i st hp = some (a, rest, hp1) ∧ hm_run f d M (pc + 3) ls (.ref a :: rest) hp1 = some (r, hp2))) := by
  rw [hm_run] at h
  split at h
  next q i hq hi =>
    refine ⟨q, i, hq, hi, ?_⟩
    split at h
    next r0 hr =>
      cases h
      exact Or.inl ⟨hr, rfl⟩
    next hr =>
      split at h
      next pc2 ls2 st2 hp3 hs => exact Or.inr (Or.inl ⟨_, hs, h⟩)
      next hs =>
        split at h
        next => cases h
        next d2 =>
          split at h
          next c as rest hc =>
            split at h
            next => cases h
            next l0 hl =>
              split at h
              next => cases h
              next r1 hp1 h1 => exact Or.inr (Or.inr (Or.inl ⟨d2, c, as, rest, l0, r1, hp1, rfl, hc, hl, h1, h⟩))
          next hc =>
            split at h
            next a rest hp1 h1 =>
              split at h
              next h4 => exact Or.inr (Or.inr (Or.inr ⟨d2, a, rest, hp1, rfl, h4, h1, h⟩))
              next => cases h
            next => cases h
  next => cases h
theorem hm_run_le : ∀ {f d M pc : Nat} {ls st : List Value} {hp hp2 : hm_H} {r : Option Value}, hm_run f d M pc ls st hp = some (r, hp2) → hm_le hp hp2
  | 0, _, _, _, _, _, _, _, _, h => by cases h
  | f + 1, d, M, pc, ls, st, hp, hp2, r, h => by
    obtain ⟨q, i, -, -, h | h | h | h⟩ := hm_run_cases h
    · rw [h.2]
      exact ⟨Nat.le_refl _, Nat.le_refl _⟩
    · obtain ⟨σ, h1, h2⟩ := h
      exact (hm_step_le h1).trans (hm_run_le h2)
    · obtain ⟨d2, c, as, rest, l0, r1, hp1, -, -, -, h1, h2⟩ := h
      exact (hm_run_le h1).trans (hm_run_le h2)
    · obtain ⟨d2, a, rest, hp1, -, -, h1, h2⟩ := h
      exact (hm_cpy_le h1).trans (hm_run_le h2)
