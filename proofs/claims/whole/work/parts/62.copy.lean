def hm_mir (l : Launch) (G : hm_E) (mi : Nat) : Prop := True
section HMP
variable {p : Program} {l : Launch} {e : Env} {R : Room} {s : State} {m : MethodId} {args : Array Value} {below : List Frame} {meth : Method} {c : Code} {Q : State → Prop}
variable {pc n n0 s0 : Nat} {i : Instr} {ls st : List Value} {hp : hm_H} {σ : hm_S} {G : hm_E} {q : hm_Q}
theorem hm_cpyK (hmir : ∃ mi : Nat, hm_mir l G mi) (C0 : hm_Cx p s m args meth c q) (hd : decode q.2.1 pc = .ok (i, n)) (hn : hm_ln i = n ∨ hm_ln i = 0) {a : Nat} {rest : List Value} {hp1 : hm_H} (h : hm_cpy q i st hp = some (a, rest, hp1)) (hn0 : n0 ≤ hp.2.1) (hs0 : s0 ≤ hp.2.2) (hc1 : hp1.2.1 - n0 ≤ R.cells) (hs1 : hp1.2.2 - s0 ≤ R.slots) (hfr : 6 ≤ R.frames) (hlo : 240 ≤ R.locals) (k : hm_K p l e R s m args below meth c Q G n0 s0 (pc + 3, ls, .ref a :: rest, hp1)) : hm_K p l e R s m args below meth c Q G n0 s0 (pc, ls, st, hp) := by
  sorry
end HMP
