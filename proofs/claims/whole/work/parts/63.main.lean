section HMM
variable {p : Program} {l : Launch} {e : Env} {R : Room} {s : State} {m : MethodId} {args : Array Value} {below : List Frame} {meth : Method} {c : Code} {Q : State → Prop}
variable {pc n n0 s0 : Nat} {i : Instr} {ls st : List Value} {hp : hm_H} {σ : hm_S} {G : hm_E} {q : hm_Q}
theorem hm_stepK (C0 : hm_Cx p s m args meth c q) (hd : decode q.2.1 pc = .ok (i, n)) (hn : hm_ln i = n ∨ hm_ln i = 0) (hn0 : n0 ≤ hp.2.1) (hs0 : s0 ≤ hp.2.2) (hcs : σ.2.2.2.2.1 - n0 ≤ R.cells ∧ σ.2.2.2.2.2 - s0 ≤ R.slots) (hfr : 1 ≤ R.frames) (hlo : 20 ≤ R.locals) (h : hm_step q i pc ls st hp = some σ) (k : hm_K p l e R s m args below meth c Q G n0 s0 σ) : hm_K p l e R s m args below meth c Q G n0 s0 (pc, ls, st, hp) := by
  rcases hm_step_cases h with h | h | h | h | h | h | h | h
  · exact hm_o1 C0.1 C0.2.1 hd hn h k
  · exact hm_o2 C0.1 C0.2.1 hd hn h k
  · exact hm_o3 C0.1 C0.2.1 hd hn h k
  · exact hm_o4 C0.1 C0.2.1 hd hn h k
  · exact hm_o5 C0 hd hn h k
  · exact hm_o6 C0 hd hn h k
  · exact hm_o7 C0 hd hn hn0 hs0 hcs h k
  · exact hm_o8 C0 hd hn hfr hlo h k
end HMM
/-- THE ABSTRACT MACHINE IS SOUND -/
theorem hm_sound (l : Launch) (G : hm_E) (hmir : ∃ mi : Nat, hm_mir l G mi) : ∀ f : Nat, hm_At l G f
  | 0 => by
    intro d M pc ls st hp hp2 r q h
    cases h
  | f + 1 => by
    have ih := hm_sound l G hmir f
    intro d M pc ls st hp hp2 r q h hq p e R s m args below meth c Q n0 s0 C0 hn0 hs0 hc hs hfr hlo hex
    obtain ⟨q2, i, hq2, hi, hcase⟩ := hm_run_cases h
    cases hq.symm.trans hq2
    obtain ⟨n, hd, hn⟩ := hm_code_ok hq hi
    rcases hcase with ⟨hr, rfl⟩ | ⟨σ, h1, h2⟩ | ⟨d2, cc, as, rest, l0, r1, hp1, rfl, h1, h2, h3, h4⟩ | ⟨d2, a, rest, hp1, rfl, h4d, h1, h2⟩
    · exact hex pc ls st i n hd hn hr
    · have hle := hm_step_le h1
      have hle2 := hm_run_le h2
      have k := ih d M σ.1 σ.2.1 σ.2.2.1 σ.2.2.2 hp2 r q h2 hq p e R s m args below meth c Q n0 s0 C0 (Nat.le_trans hn0 hle.1) (Nat.le_trans hs0 hle.2) hc hs hfr hlo hex
      exact hm_stepK C0 hd hn hn0 hs0 ⟨by have := hle2.1; omega, by have := hle2.2; omega⟩ (by omega) (by omega) h1 k
    · have hle := hm_run_le h3
      have hle2 := hm_run_le h4
      have k := ih (d2 + 1) M (pc + 3) ls (r1.toList ++ rest) hp1 hp2 r q h4 hq p e R s m args below meth c Q n0 s0 C0 (Nat.le_trans hn0 hle.1) (Nat.le_trans hs0 hle.2) hc hs hfr hlo hex
      exact hm_callK ih C0 hd hn h1 h2 h3 hn0 hs0 (by have := hle2.1; omega) (by have := hle2.2; omega) hfr hlo k
    · have hle := hm_cpy_le h1
      have hle2 := hm_run_le h2
      have k := ih (d2 + 1) M (pc + 3) ls (.ref a :: rest) hp1 hp2 r q h2 hq p e R s m args below meth c Q n0 s0 C0 (Nat.le_trans hn0 hle.1) (Nat.le_trans hs0 hle.2) hc hs hfr hlo hex
      exact hm_cpyK hmir C0 hd hn h1 hn0 hs0 (by have := hle2.1; omega) (by have := hle2.2; omega) (by omega) (by omega) k
