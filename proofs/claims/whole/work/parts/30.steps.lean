/-! ONE STEP, instructions that leave the heap as it is -/
def hm_K (p : Program) (l : Launch) (e : Env) (R : Room) (s : State) (m : MethodId) (args : Array Value) (below : List Frame) (meth : Method) (c : Code) (Q : State → Prop) (G : hm_E) (n0 s0 : Nat) (σ : hm_S) : Prop :=
  ∀ (H : Heap) (locs : List Loc) (la : Array Slot), hm_R G s σ.2.2.2 H → hm_L G la σ.2.1 → la.size = c.maxLocals → (∀ q ∈ locs, G.1 ≤ q.base) → W p l e R s m args below meth c H locs (σ.2.2.2.2.1 - n0) (σ.2.2.2.2.2 - s0) Q (F0 m σ.1 la (σ.2.2.1.map (hm_v G)))
theorem hm_lnE {i : Instr} {n k : Nat} (hn : hm_ln i = n ∨ hm_ln i = 0) (hk : hm_ln i = k) (h0 : k ≠ 0) : n = k := by
  rcases hn with h | h
  · exact h.symm.trans hk
  · exact absurd (hk.symm.trans h) h0
theorem hm_jmp_eq {pc t : Nat} {off : Int} (h : hm_jmp pc off = some t) : (pc : Int) + off = (t : Int) := by
  unfold hm_jmp at h
  split at h
  next hc => cases h; omega
  next => cases h
theorem hm_st1_lt {ls l2 : List Value} {i : Nat} {v : Value} (h : hm_st1 ls i v = some l2) : i < ls.length := by
  unfold hm_st1 at h
  split at h
  next hc => exact hc.1
  next => cases h
theorem hm_st2_lt {ls l2 : List Value} {i : Nat} {v : Value} (h : hm_st2 ls i v = some l2) : i + 1 < ls.length := by
  unfold hm_st2 at h
  split at h
  next hc => exact hc.1
  next => cases h
section HMS
variable {p : Program} {l : Launch} {e : Env} {R : Room} {s : State} {m : MethodId} {args : Array Value} {below : List Frame} {meth : Method} {c : Code} {Q : State → Prop}
variable {cc : ByteArray} {pc n n0 s0 : Nat} {i : Instr} {ls st : List Value} {hp : hm_H} {σ : hm_S} {G : hm_E}
set_option maxHeartbeats 1000000 in
theorem hm_o1 (hx : p.tables.exec = Jvm.exec) (hb : c.code = cc) (hd : decode cc pc = .ok (i, n)) (hn : hm_ln i = n ∨ hm_ln i = 0) (h : hm_s1 i pc ls st hp = some σ) (k : hm_K p l e R s m args below meth c Q G n0 s0 σ) : hm_K p l e R s m args below meth c Q G n0 s0 (pc, ls, st, hp) := by
  intro H locs la hR hL hz hf
  unfold hm_s1 at h
  split at h
  · obtain rfl : n = 1 := hm_lnE hn rfl (by decide)
    cases h
    exact lv_iconst hx hb hd rfl (k H locs la hR hL hz hf)
  · obtain rfl : n = 2 := hm_lnE hn rfl (by decide)
    cases h
    exact lv_bipush hx hb hd rfl (k H locs la hR hL hz hf)
  · obtain rfl : n = 3 := hm_lnE hn rfl (by decide)
    cases h
    exact lv_sipush hx hb hd rfl (k H locs la hR hL hz hf)
  · obtain rfl : n = 1 := hm_lnE hn rfl (by decide)
    cases h
    exact lv_lconst hx hb hd rfl (k H locs la hR hL hz hf)
  · obtain rfl : n = 1 := hm_lnE hn rfl (by decide)
    cases h
    exact lv_null hx hb hd (k H locs la hR hL hz hf)
  · obtain rfl : n = 1 := hm_lnE hn rfl (by decide)
    split at h
    next hc =>
      cases h
      exact lv_dup hx hb hd (by rw [hm_v_cat]; exact hc) (k H locs la hR hL hz hf)
    next => cases h
  · obtain rfl : n = 1 := hm_lnE hn rfl (by decide)
    split at h
    next hc =>
      cases h
      exact lv_pop hx hb hd (by rw [hm_v_cat]; exact hc) (k H locs la hR hL hz hf)
    next => cases h
  · obtain rfl : n = 1 := hm_lnE hn rfl (by decide)
    split at h
    next hc =>
      cases h
      exact lv_dup_x1 hx hb hd (by rw [hm_v_cat]; exact hc.1) (by rw [hm_v_cat]; exact hc.2) (k H locs la hR hL hz hf)
    next => cases h
  · obtain rfl : n = 1 := hm_lnE hn rfl (by decide)
    split at h
    next hc =>
      cases h
      exact lv_dup2_11 hx hb hd (by rw [hm_v_cat]; exact hc.1) (by rw [hm_v_cat]; exact hc.2) (k H locs la hR hL hz hf)
    next => cases h
  · cases h
set_option maxHeartbeats 1000000 in
theorem hm_o2 (hx : p.tables.exec = Jvm.exec) (hb : c.code = cc) (hd : decode cc pc = .ok (i, n)) (hn : hm_ln i = n ∨ hm_ln i = 0) (h : hm_s2 i pc ls st hp = some σ) (k : hm_K p l e R s m args below meth c Q G n0 s0 σ) : hm_K p l e R s m args below meth c Q G n0 s0 (pc, ls, st, hp) := by
  intro H locs la hR hL hz hf
  unfold hm_s2 at h
  split at h
  · obtain rfl : n = 1 := hm_lnE hn rfl (by decide)
    cases h
    exact lv_iadd hx hb hd (k H locs la hR hL hz hf)
  · obtain rfl : n = 1 := hm_lnE hn rfl (by decide)
    cases h
    exact lv_isub hx hb hd (k H locs la hR hL hz hf)
  · obtain rfl : n = 1 := hm_lnE hn rfl (by decide)
    cases h
    exact lv_imul hx hb hd (k H locs la hR hL hz hf)
  · obtain rfl : n = 1 := hm_lnE hn rfl (by decide)
    cases h
    exact lv_iand hx hb hd (k H locs la hR hL hz hf)
  · obtain rfl : n = 1 := hm_lnE hn rfl (by decide)
    cases h
    exact lv_ior hx hb hd (k H locs la hR hL hz hf)
  · obtain rfl : n = 1 := hm_lnE hn rfl (by decide)
    cases h
    exact lv_ixor hx hb hd (k H locs la hR hL hz hf)
  · obtain rfl : n = 1 := hm_lnE hn rfl (by decide)
    split at h
    next => cases h
    next hc =>
      cases h
      exact lv_idiv hx hb hd hc (k H locs la hR hL hz hf)
  · obtain rfl : n = 1 := hm_lnE hn rfl (by decide)
    split at h
    next => cases h
    next hc =>
      cases h
      exact lv_irem hx hb hd hc (k H locs la hR hL hz hf)
  · obtain rfl : n = 1 := hm_lnE hn rfl (by decide)
    cases h
    exact lv_ineg hx hb hd (k H locs la hR hL hz hf)
  · obtain rfl : n = 1 := hm_lnE hn rfl (by decide)
    cases h
    exact lv_ishl hx hb hd (k H locs la hR hL hz hf)
  · obtain rfl : n = 1 := hm_lnE hn rfl (by decide)
    cases h
    exact lv_ishr hx hb hd (k H locs la hR hL hz hf)
  · obtain rfl : n = 1 := hm_lnE hn rfl (by decide)
    cases h
    exact lv_iushr hx hb hd rfl (k H locs la hR hL hz hf)
  · obtain rfl : n = 1 := hm_lnE hn rfl (by decide)
    cases h
    exact lv_i2l hx hb hd rfl (k H locs la hR hL hz hf)
  · obtain rfl : n = 1 := hm_lnE hn rfl (by decide)
    cases h
    exact lv_l2i hx hb hd rfl (k H locs la hR hL hz hf)
  · obtain rfl : n = 1 := hm_lnE hn rfl (by decide)
    cases h
    exact lv_ladd hx hb hd (k H locs la hR hL hz hf)
  · obtain rfl : n = 1 := hm_lnE hn rfl (by decide)
    cases h
    exact lv_lmul hx hb hd (k H locs la hR hL hz hf)
  · obtain rfl : n = 1 := hm_lnE hn rfl (by decide)
    split at h
    next => cases h
    next hc =>
      cases h
      exact lv_ldiv hx hb hd hc (k H locs la hR hL hz hf)
  · obtain rfl : n = 1 := hm_lnE hn rfl (by decide)
    cases h
    exact lv_land hx hb hd (k H locs la hR hL hz hf)
  · obtain rfl : n = 1 := hm_lnE hn rfl (by decide)
    cases h
    exact lv_lor hx hb hd (k H locs la hR hL hz hf)
  · obtain rfl : n = 1 := hm_lnE hn rfl (by decide)
    cases h
    exact lv_lshl hx hb hd rfl (k H locs la hR hL hz hf)
  · obtain rfl : n = 1 := hm_lnE hn rfl (by decide)
    cases h
    exact lv_lshr hx hb hd rfl (k H locs la hR hL hz hf)
  · obtain rfl : n = 1 := hm_lnE hn rfl (by decide)
    cases h
    exact lv_lushr hx hb hd rfl (k H locs la hR hL hz hf)
  · obtain rfl : n = 1 := hm_lnE hn rfl (by decide)
    cases h
    exact W.lcmp hx hb hd (k H locs la hR hL hz hf)
  · cases h
set_option maxHeartbeats 1000000 in
theorem hm_o3 (hx : p.tables.exec = Jvm.exec) (hb : c.code = cc) (hd : decode cc pc = .ok (i, n)) (hn : hm_ln i = n ∨ hm_ln i = 0) (h : hm_s3 i pc ls st hp = some σ) (k : hm_K p l e R s m args below meth c Q G n0 s0 σ) : hm_K p l e R s m args below meth c Q G n0 s0 (pc, ls, st, hp) := by
  intro H locs la hR hL hz hf
  unfold hm_s3 at h
  split at h
  · obtain rfl : n = 2 := hm_lnE hn rfl (by decide)
    unfold hm_ldi at h
    split at h
    next x hk =>
      cases h
      exact lv_iload hx hb hd (hL.get hk (fun n hn => by cases hn)) (k H locs la hR hL hz hf)
    next => cases h
  · obtain rfl : n = 1 := hm_lnE hn rfl (by decide)
    unfold hm_ldi at h
    split at h
    next x hk =>
      cases h
      exact lv_iload_n hx hb hd rfl (hL.get hk (fun n hn => by cases hn)) (k H locs la hR hL hz hf)
    next => cases h
  · obtain rfl : n = 2 := hm_lnE hn rfl (by decide)
    unfold hm_ldl at h
    split at h
    next x hk =>
      cases h
      exact lv_lload hx hb hd (hL.get hk (fun n hn => by cases hn)) (k H locs la hR hL hz hf)
    next => cases h
  · obtain rfl : n = 1 := hm_lnE hn rfl (by decide)
    unfold hm_ldl at h
    split at h
    next x hk =>
      cases h
      exact lv_lload_n hx hb hd rfl (hL.get hk (fun n hn => by cases hn)) (k H locs la hR hL hz hf)
    next => cases h
  · obtain rfl : n = 2 := hm_lnE hn rfl (by decide)
    unfold hm_lda at h
    split at h
    next x hk =>
      cases h
      exact lv_aload hx hb hd (hL.get hk (fun n hn => by cases hn)) (k H locs la hR hL hz hf)
    next hk =>
      cases h
      exact lv_aloadN hx hb hd (hL.get hk (fun n hn => by cases hn)) (k H locs la hR hL hz hf)
    next => cases h
  · obtain rfl : n = 1 := hm_lnE hn rfl (by decide)
    unfold hm_lda at h
    split at h
    next x hk =>
      cases h
      exact lv_aload_n hx hb hd rfl (hL.get hk (fun n hn => by cases hn)) (k H locs la hR hL hz hf)
    next hk =>
      cases h
      exact lv_aload_nN hx hb hd rfl (hL.get hk (fun n hn => by cases hn)) (k H locs la hR hL hz hf)
    next => cases h
  · obtain rfl : n = 2 := hm_lnE hn rfl (by decide)
    obtain ⟨l2, h1, h2⟩ := Option.map_eq_some_iff.mp h
    cases h2
    exact lv_istore hx hb hd hL (hm_st1_lt h1) rfl (fun la2 hl2 => k H locs la2 hR (hm_L.st1 h1 hl2) (hl2.1.trans (hL.1.symm.trans hz)) hf)
  · obtain rfl : n = 1 := hm_lnE hn rfl (by decide)
    obtain ⟨l2, h1, h2⟩ := Option.map_eq_some_iff.mp h
    cases h2
    exact lv_istore_n hx hb hd rfl hL (hm_st1_lt h1) rfl (fun la2 hl2 => k H locs la2 hR (hm_L.st1 h1 hl2) (hl2.1.trans (hL.1.symm.trans hz)) hf)
  · obtain rfl : n = 2 := hm_lnE hn rfl (by decide)
    obtain ⟨l2, h1, h2⟩ := Option.map_eq_some_iff.mp h
    cases h2
    exact lv_astore hx hb hd hL (hm_st1_lt h1) rfl (fun la2 hl2 => k H locs la2 hR (hm_L.st1 h1 hl2) (hl2.1.trans (hL.1.symm.trans hz)) hf)
  · obtain rfl : n = 1 := hm_lnE hn rfl (by decide)
    obtain ⟨l2, h1, h2⟩ := Option.map_eq_some_iff.mp h
    cases h2
    exact lv_astore_n hx hb hd rfl hL (hm_st1_lt h1) rfl (fun la2 hl2 => k H locs la2 hR (hm_L.st1 h1 hl2) (hl2.1.trans (hL.1.symm.trans hz)) hf)
  · obtain rfl : n = 2 := hm_lnE hn rfl (by decide)
    obtain ⟨l2, h1, h2⟩ := Option.map_eq_some_iff.mp h
    cases h2
    exact lv_astoreN hx hb hd hL (hm_st1_lt h1) rfl (fun la2 hl2 => k H locs la2 hR (hm_L.st1 h1 hl2) (hl2.1.trans (hL.1.symm.trans hz)) hf)
  · obtain rfl : n = 1 := hm_lnE hn rfl (by decide)
    obtain ⟨l2, h1, h2⟩ := Option.map_eq_some_iff.mp h
    cases h2
    exact lv_astore_nN hx hb hd rfl hL (hm_st1_lt h1) rfl (fun la2 hl2 => k H locs la2 hR (hm_L.st1 h1 hl2) (hl2.1.trans (hL.1.symm.trans hz)) hf)
  · obtain rfl : n = 2 := hm_lnE hn rfl (by decide)
    obtain ⟨l2, h1, h2⟩ := Option.map_eq_some_iff.mp h
    cases h2
    exact lv_lstore hx hb hd hL (hm_st2_lt h1) rfl (fun la2 hl2 => k H locs la2 hR (hm_L.st2 h1 hl2) (hl2.1.trans (hL.1.symm.trans hz)) hf)
  · obtain rfl : n = 1 := hm_lnE hn rfl (by decide)
    obtain ⟨l2, h1, h2⟩ := Option.map_eq_some_iff.mp h
    cases h2
    exact lv_lstore_n hx hb hd rfl hL (hm_st2_lt h1) rfl (fun la2 hl2 => k H locs la2 hR (hm_L.st2 h1 hl2) (hl2.1.trans (hL.1.symm.trans hz)) hf)
  · obtain rfl : n = 3 := hm_lnE hn rfl (by decide)
    split at h
    next x hk =>
      obtain ⟨l2, h1, h2⟩ := Option.map_eq_some_iff.mp h
      cases h2
      obtain ⟨kk, hkk⟩ := List.getElem?_of_mem (hm_ll_in (G := G) hk (fun n hn => by cases hn))
      exact lv_iinc hx hb hd hL hkk rfl (hm_st1_lt h1) rfl (fun la2 hl2 => k H locs la2 hR (hm_L.st1 h1 hl2) (hl2.1.trans (hL.1.symm.trans hz)) hf)
    next => cases h
  · cases h
set_option maxHeartbeats 1000000 in
theorem hm_o4 (hx : p.tables.exec = Jvm.exec) (hb : c.code = cc) (hd : decode cc pc = .ok (i, n)) (hn : hm_ln i = n ∨ hm_ln i = 0) (h : hm_s4 i pc ls st hp = some σ) (k : hm_K p l e R s m args below meth c Q G n0 s0 σ) : hm_K p l e R s m args below meth c Q G n0 s0 (pc, ls, st, hp) := by
  intro H locs la hR hL hz hf
  unfold hm_s4 at h
  split at h
  · obtain rfl : n = 3 := hm_lnE hn rfl (by decide)
    unfold hm_to at h
    obtain ⟨t, ht, h2⟩ := Option.map_eq_some_iff.mp h
    cases h2
    exact lv_goto hx hb hd (hm_jmp_eq ht) (k H locs la hR hL hz hf)
  · obtain rfl : n = 3 := hm_lnE hn rfl (by decide)
    obtain ⟨t, ht, h2⟩ := Option.map_eq_some_iff.mp h
    split at h2
    next hc =>
      cases h2
      exact lv_if_eq hx hb hd (hm_jmp_eq ht) (fun _ => (k H locs la hR hL hz hf)) (fun hq => absurd hc hq)
    next hc =>
      cases h2
      exact lv_if_eq hx hb hd (hm_jmp_eq ht) (fun hq => absurd hq hc) (fun _ => (k H locs la hR hL hz hf))
  · obtain rfl : n = 3 := hm_lnE hn rfl (by decide)
    obtain ⟨t, ht, h2⟩ := Option.map_eq_some_iff.mp h
    split at h2
    next hc =>
      cases h2
      exact lv_if_ne hx hb hd (hm_jmp_eq ht) (fun _ => (k H locs la hR hL hz hf)) (fun hq => absurd hq hc)
    next hc =>
      cases h2
      exact lv_if_ne hx hb hd (hm_jmp_eq ht) (fun hq => absurd hq hc) (fun _ => (k H locs la hR hL hz hf))
  · obtain rfl : n = 3 := hm_lnE hn rfl (by decide)
    obtain ⟨t, ht, h2⟩ := Option.map_eq_some_iff.mp h
    split at h2
    next hc =>
      cases h2
      exact lv_if_lt hx hb hd (hm_jmp_eq ht) (fun _ => (k H locs la hR hL hz hf)) (fun hq => absurd hc hq)
    next hc =>
      cases h2
      exact lv_if_lt hx hb hd (hm_jmp_eq ht) (fun hq => absurd hq hc) (fun _ => (k H locs la hR hL hz hf))
  · obtain rfl : n = 3 := hm_lnE hn rfl (by decide)
    obtain ⟨t, ht, h2⟩ := Option.map_eq_some_iff.mp h
    split at h2
    next hc =>
      cases h2
      exact lv_if_ge hx hb hd (hm_jmp_eq ht) (fun _ => (k H locs la hR hL hz hf)) (fun hq => absurd hc hq)
    next hc =>
      cases h2
      exact lv_if_ge hx hb hd (hm_jmp_eq ht) (fun hq => absurd hq hc) (fun _ => (k H locs la hR hL hz hf))
  · obtain rfl : n = 3 := hm_lnE hn rfl (by decide)
    obtain ⟨t, ht, h2⟩ := Option.map_eq_some_iff.mp h
    split at h2
    next hc =>
      cases h2
      exact lv_if_gt hx hb hd (hm_jmp_eq ht) (fun _ => (k H locs la hR hL hz hf)) (fun hq => absurd hc hq)
    next hc =>
      cases h2
      exact lv_if_gt hx hb hd (hm_jmp_eq ht) (fun hq => absurd hq hc) (fun _ => (k H locs la hR hL hz hf))
  · obtain rfl : n = 3 := hm_lnE hn rfl (by decide)
    obtain ⟨t, ht, h2⟩ := Option.map_eq_some_iff.mp h
    split at h2
    next hc =>
      cases h2
      exact lv_if_le hx hb hd (hm_jmp_eq ht) (fun _ => (k H locs la hR hL hz hf)) (fun hq => absurd hc hq)
    next hc =>
      cases h2
      exact lv_if_le hx hb hd (hm_jmp_eq ht) (fun hq => absurd hq hc) (fun _ => (k H locs la hR hL hz hf))
  · obtain rfl : n = 3 := hm_lnE hn rfl (by decide)
    obtain ⟨t, ht, h2⟩ := Option.map_eq_some_iff.mp h
    split at h2
    next hc =>
      cases h2
      exact lv_icmp_eq hx hb hd (hm_jmp_eq ht) (fun _ => (k H locs la hR hL hz hf)) (fun hq => absurd hc hq)
    next hc =>
      cases h2
      exact lv_icmp_eq hx hb hd (hm_jmp_eq ht) (fun hq => absurd hq hc) (fun _ => (k H locs la hR hL hz hf))
  · obtain rfl : n = 3 := hm_lnE hn rfl (by decide)
    obtain ⟨t, ht, h2⟩ := Option.map_eq_some_iff.mp h
    split at h2
    next hc =>
      cases h2
      exact lv_icmp_ne hx hb hd (hm_jmp_eq ht) (fun _ => (k H locs la hR hL hz hf)) (fun hq => absurd hq hc)
    next hc =>
      cases h2
      exact lv_icmp_ne hx hb hd (hm_jmp_eq ht) (fun hq => absurd hq hc) (fun _ => (k H locs la hR hL hz hf))
  · obtain rfl : n = 3 := hm_lnE hn rfl (by decide)
    obtain ⟨t, ht, h2⟩ := Option.map_eq_some_iff.mp h
    split at h2
    next hc =>
      cases h2
      exact lv_icmp_lt hx hb hd (hm_jmp_eq ht) (fun _ => (k H locs la hR hL hz hf)) (fun hq => absurd hc hq)
    next hc =>
      cases h2
      exact lv_icmp_lt hx hb hd (hm_jmp_eq ht) (fun hq => absurd hq hc) (fun _ => (k H locs la hR hL hz hf))
  · obtain rfl : n = 3 := hm_lnE hn rfl (by decide)
    obtain ⟨t, ht, h2⟩ := Option.map_eq_some_iff.mp h
    split at h2
    next hc =>
      cases h2
      exact lv_icmp_ge hx hb hd (hm_jmp_eq ht) (fun _ => (k H locs la hR hL hz hf)) (fun hq => absurd hc hq)
    next hc =>
      cases h2
      exact lv_icmp_ge hx hb hd (hm_jmp_eq ht) (fun hq => absurd hq hc) (fun _ => (k H locs la hR hL hz hf))
  · obtain rfl : n = 3 := hm_lnE hn rfl (by decide)
    obtain ⟨t, ht, h2⟩ := Option.map_eq_some_iff.mp h
    split at h2
    next hc =>
      cases h2
      exact lv_icmp_gt hx hb hd (hm_jmp_eq ht) (fun _ => (k H locs la hR hL hz hf)) (fun hq => absurd hc hq)
    next hc =>
      cases h2
      exact lv_icmp_gt hx hb hd (hm_jmp_eq ht) (fun hq => absurd hq hc) (fun _ => (k H locs la hR hL hz hf))
  · obtain rfl : n = 3 := hm_lnE hn rfl (by decide)
    obtain ⟨t, ht, h2⟩ := Option.map_eq_some_iff.mp h
    split at h2
    next hc =>
      cases h2
      exact lv_icmp_le hx hb hd (hm_jmp_eq ht) (fun _ => (k H locs la hR hL hz hf)) (fun hq => absurd hc hq)
    next hc =>
      cases h2
      exact lv_icmp_le hx hb hd (hm_jmp_eq ht) (fun hq => absurd hq hc) (fun _ => (k H locs la hR hL hz hf))
  · obtain rfl : n = 3 := hm_lnE hn rfl (by decide)
    unfold hm_to at h
    obtain ⟨t, ht, h2⟩ := Option.map_eq_some_iff.mp h
    cases h2
    exact lv_ifnullN hx hb hd (hm_jmp_eq ht) (k H locs la hR hL hz hf)
  · obtain rfl : n = 3 := hm_lnE hn rfl (by decide)
    cases h
    exact lv_ifnull hx hb hd (k H locs la hR hL hz hf)
  · obtain rfl : n = 3 := hm_lnE hn rfl (by decide)
    unfold hm_to at h
    obtain ⟨t, ht, h2⟩ := Option.map_eq_some_iff.mp h
    cases h2
    exact lv_ifnonnull hx hb hd (hm_jmp_eq ht) (k H locs la hR hL hz hf)
  · obtain rfl : n = 3 := hm_lnE hn rfl (by decide)
    cases h
    exact lv_ifnonnullN hx hb hd (k H locs la hR hL hz hf)
  · obtain rfl : n = 3 := hm_lnE hn rfl (by decide)
    split at h
    next a b r hc =>
      subst hc
      unfold hm_to at h
      obtain ⟨t, ht, h2⟩ := Option.map_eq_some_iff.mp h
      cases h2
      exact lv_acmp_eq (rx := some (hm_rho G _)) (ry := some (hm_rho G _)) hx hb hd (hm_jmp_eq ht) (fun _ => (k H locs la hR hL hz hf)) (fun hq => absurd rfl hq)
    next => cases h
  · obtain rfl : n = 3 := hm_lnE hn rfl (by decide)
    split at h
    next a b r hc =>
      subst hc
      obtain ⟨t, ht, h2⟩ := Option.map_eq_some_iff.mp h
      cases h2
      exact lv_acmp_ne (rx := some (hm_rho G _)) (ry := some (hm_rho G _)) hx hb hd (hm_jmp_eq ht) (fun hq => absurd rfl hq) (fun _ => (k H locs la hR hL hz hf))
    next => cases h
  · split at h
    next hc =>
      unfold hm_to at h
      obtain ⟨t, ht, h2⟩ := Option.map_eq_some_iff.mp h
      cases h2
      exact lv_tableOut hx hb hd hc (hm_jmp_eq ht) (k H locs la hR hL hz hf)
    next hc =>
      split at h
      next off ho =>
        unfold hm_to at h
        obtain ⟨t, ht, h2⟩ := Option.map_eq_some_iff.mp h
        cases h2
        exact lv_tableIn hx hb hd (fun q => hc (Or.inl q)) (fun q => hc (Or.inr q)) ho (hm_jmp_eq ht) (k H locs la hR hL hz hf)
      next => cases h
  · split at h
    next hc =>
      unfold hm_to at h
      obtain ⟨t, ht, h2⟩ := Option.map_eq_some_iff.mp h
      cases h2
      exact lv_lookup hx hb hd hc rfl (hm_jmp_eq ht) (k H locs la hR hL hz hf)
    next => cases h
  · cases h
end HMS
