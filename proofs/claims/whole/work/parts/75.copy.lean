def hm_mir (l : Launch) (G : hm_E) (mi : Nat) : Prop := True
theorem hm_castO : ∀ k : Nat, k < 10 → ∀ r, hm_cls[k]? = some r → Cond.castable r.1 "java/lang/Object" ∈ tables_1 := hm_lt10 ⟨fun r h => by cases h; exact List.mem_of_getElem? (i := 1063) (by decide +kernel), fun r h => by cases h; exact List.mem_of_getElem? (i := 1069) (by decide +kernel), fun r h => by cases h; exact List.mem_of_getElem? (i := 1058) (by decide +kernel), fun r h => by cases h; exact List.mem_of_getElem? (i := 1066) (by decide +kernel), fun r h => by cases h; exact List.mem_of_getElem? (i := 1064) (by decide +kernel), fun r h => by cases h; exact List.mem_of_getElem? (i := 1070) (by decide +kernel), fun r h => by cases h; exact List.mem_of_getElem? (i := 1065) (by decide +kernel), fun r h => by cases h; exact List.mem_of_getElem? (i := 1062) (by decide +kernel), fun r h => by cases h; exact List.mem_of_getElem? (i := 1068) (by decide +kernel), fun r h => by cases h; exact List.mem_of_getElem? (i := 1067) (by decide +kernel)⟩
section HMM
variable {p : Program} {l : Launch} {e : Env} {R : Room} {s : State} {m : MethodId} {args : Array Value} {below : List Frame} {meth : Method} {c : Code} {Q : State → Prop}
variable {pc n n0 s0 : Nat} {i : Instr} {ls st : List Value} {hp : hm_H} {σ : hm_S} {G : hm_E} {q : hm_Q}
theorem hm_stepK (C0 : hm_Cx p s m args meth c q) (hd : decode q.2.1 pc = .ok (i, n)) (hn : hm_ln i = n ∨ hm_ln i = 0) (hn0 : n0 ≤ hp.2.1) (hs0 : s0 ≤ hp.2.2) (hcs : σ.2.2.2.2.1 - n0 ≤ R.cells ∧ σ.2.2.2.2.2 - s0 ≤ R.slots) (hfr : 1 ≤ R.frames) (hlo : 20 ≤ R.locals) (h : hm_step q i pc ls st hp = some σ) (k : hm_K p l e R s m args below meth c Q G n0 s0 σ) : hm_K p l e R s m args below meth c Q G n0 s0 (pc, ls, st, hp) := by
  rcases hm_step_cases h with h | h | h | h | h | h | h | h
  · exact hm_o1 C0.1 C0.2.1 hd hn h k
  · exact hm_o2 C0.1 C0.2.1 hd hn h k
  · exact hm_o3 C0.1 C0.2.1 hd hn h k
  · exact hm_o4 C0.1 C0.2.1 hd hn h k
  · exact hm_o5 C0 hd hn h k
  · exact hm_o6 C0 hd hn h k
  · exact hm_o7 C0 hd hn hn0 hs0 hcs h k
  · exact hm_o8 C0 hd hn hfr hlo h k
end HMM
section HMP
variable {p : Program} {l : Launch} {e : Env} {R : Room} {s : State} {m : MethodId} {args : Array Value} {below : List Frame} {meth : Method} {c : Code} {Q : State → Prop}
variable {pc n n0 s0 : Nat} {i : Instr} {ls st : List Value} {hp hp1 : hm_H} {σ : hm_S} {G : hm_E} {q : hm_Q}
/-- behind a call whose contract tells the abstract heap -/
theorem hm_finK {H : Heap} {locs : List Loc} {la : Array Slot} {st0 rest0 : List Value} {r1 : Option Value} {a9 : Array Value} (hrun : va_Run p l e R s m args below meth c H locs (hp.2.1 - n0) (hp.2.2 - s0) (hp1.2.1 - hp.2.1) (hp1.2.2 - hp.2.2) (F0 m pc la st0) rest0 (hm_Post G r1 hp1 a9) (fun a => G.1 ≤ a)) (hle : hm_le hp hp1) (hn0 : n0 ≤ hp.2.1) (hs0 : s0 ≤ hp.2.2) (hf : ∀ q ∈ locs, G.1 ≤ q.base)
    (kk : ∀ (H1 : Heap) (locs1 : List Loc), hm_R G s hp1 H1 → (∀ q ∈ locs1, G.1 ≤ q.base) → W p l e R s m args below meth c H1 locs1 (hp1.2.1 - n0) (hp1.2.2 - s0) Q (F0 m (pc + 3) la ((r1.map (hm_v G)).toList ++ rest0))) : W p l e R s m args below meth c H locs (hp.2.1 - n0) (hp.2.2 - s0) Q (F0 m pc la st0) := by
  obtain ⟨hle1, hle2⟩ := hle
  intro T hT X
  obtain ⟨v, st₀, t, T', L, h0, X', hLf, e1, e2, ⟨hv, hRt⟩, stp⟩ := hrun T hT X
  have hv2 : v = r1.map (hm_v G) := Outcome.returned.inj hv
  subst hv2
  have hal : s.vm.Alike t.vm := by rw [← e2]; exact X'.warmed.alike
  have hR1 : hm_R G s hp1 T'.heap := by rw [e1]; exact hRt.moved hal.symm
  have ec : hp.2.1 - n0 + (hp1.2.1 - hp.2.1) = hp1.2.1 - n0 := by omega
  have es : hp.2.2 - s0 + (hp1.2.2 - hp.2.2) = hp1.2.2 - s0 := by omega
  rw [ec, es] at X'
  obtain ⟨t2, a1, b1⟩ := kk T'.heap (locs ++ L) hR1 (t_lL (free := fun x => G.1 ≤ x) hf hLf) T' rfl X'
  exact ⟨t2, stp t2 a1, b1⟩
/-- the heap with a copy of an array of references -/
abbrev hm_cp (hp : hm_H) (k N : Nat) (f : Nat → Option Nat) : hm_H := hm_push hp (.inl (6, N, .inr (.inr (.inr (.inr (fun j => if j < k then f j else none)))))) N
abbrev hm_y73 : MethodName := ⟨"java/util/Arrays", "copyOf", "([Ljava/lang/Object;ILjava/lang/Class;)[Ljava/lang/Object;"⟩
abbrev hm_y72 : MethodName := ⟨"java/util/Arrays", "copyOf", "([Ljava/lang/Object;I)[Ljava/lang/Object;"⟩
/-- System.arraycopy of references, from the first place on, exact -/
theorem hm_acopy (C0 : hm_Cx p s m args meth c q) {H : Heap} {locs : List Loc} {la : Array Slot} {rest : List Value} {cells slots a0 a k N ix : Nat} {nI0 : Int32} {f g : Nat → Option Nat} (hz : la.size = c.maxLocals) (hlink : (Cond.methodLink q.1.cls ix arraycopyName).before args s = true) (hK : va_K G.2.2.1 hm_cls (hm_tys G) s) (hc0 : H[a0]? = some (vp_cell (G.2.2.2 6) (k, .inr (.inr (.inr (.inr f)))))) (hc1 : H[a]? = some (vp_cell (G.2.2.2 6) (N, .inr (.inr (.inr (.inr g)))))) (h3 : ¬ nI0 < 0) (hkn : nI0.toNatClampNeg = k) (hkN : k ≤ N)
    (hel : ∀ j : Nat, j < k → ∀ y : Nat, f j = some y → ∃ cellV : Cell, H[y]? = some cellV ∧ cellV.vm.isStatics = false ∧ ∃ kC, s.vm.classes[cellV.cls]? = some kC ∧ ∀ comp : ClassId, s.vm.findClass "java/lang/Object" = some comp → s.vm.assignable cellV.cls comp = true)
    (hframes : 1 ≤ R.frames) (hlocals : (rest.map fun v => v.category).sum + (nativeFrameWords "java/lang/System" "arraycopy" 5 + 11) ≤ R.locals) (hd : decode q.2.1 pc = .ok (.invokestatic ix, 3))
    (kk : ∀ (H1 : Heap) (L : List Loc), (∀ z ∈ L, z.base = a) → H1[a]? = some (vp_cell (G.2.2.2 6) (N, .inr (.inr (.inr (.inr (va_cpy f g 0 0 k)))))) → H1.size = H.size → (∀ z : Nat, z ≠ a → H1[z]? = H[z]?) → W p l e R s m args below meth c H1 (locs ++ L) cells slots Q (F0 m (pc + 3) la rest)) : W p l e R s m args below meth c H locs cells slots Q (F0 m pc la (.int nI0 :: .int 0 :: .ref a :: .int 0 :: .ref a0 :: rest)) := by
  obtain ⟨hx, hb, hml, hr, hlk, hown, hnm, hw0, hts, hNW⟩ := id C0
  have nn : nI0.toInt = (k : Int) := by
    have hz0 : (0 : Int) ≤ nI0.toInt := by
      have := Int32.not_lt.mp h3
      simpa using Int32.le_iff_toInt_le.mp this
    rw [← hkn]
    show nI0.toInt = ((nI0.toInt.toNat : Nat) : Int)
    omega
  have z0 : (0 : Int32).toNatClampNeg = 0 := by decide +kernel
  have z1 : (0 : Int32).toInt = 0 := by decide +kernel
  intro T hT X
  obtain ⟨-, k0, hk0, cm0, hkk0⟩ := (hK.2 6 _ rfl).1 k (fun j => va_rf (f j))
  obtain ⟨kA, comp, r1, r2, r3, -⟩ := (hK.2 6 _ rfl).2
  obtain ⟨vm', X', step⟩ := X.arraycopy hx hown hlink (hts (.native arraycopyName) (hm_tb_of (List.mem_of_getElem? (i := 506) (by decide +kernel)) rfl)) (hts (.static arraycopyName) (hm_tb_of (List.mem_of_getElem? (i := 505) (by decide +kernel)) rfl)) (hts (.initialized "java/lang/System") (hm_tb_of (List.mem_of_getElem? (i := 17) (by decide +kernel)) rfl)) (src := a0) (dst := a) (cs := vp_cell (G.2.2.2 6) (k, .inr (.inr (.inr (.inr f))))) (cd := vp_cell (G.2.2.2 6) (N, .inr (.inr (.inr (.inr g))))) (srcPos := 0) (destPos := 0) (n := nI0) (by rw [hT]; exact hc0) (by rw [hT]; exact hc1)
    (fun _ h => by cases h) (fun _ h => by cases h) (fun h => by cases h) (fun h => by cases h) r1 r1 r2 r2 rfl (by decide +kernel) (by decide +kernel) h3
    (by rw [z1, nn]; show ¬ _ > ((arrV (G.2.2.2 6) k (fun j => va_rf (f j))).slots.size : Int); rw [arrV_size]; omega)
    (by rw [z1, nn]; show ¬ _ > ((arrV (G.2.2.2 6) N (fun j => va_rf (g j))).slots.size : Int); rw [arrV_size]; omega)
    (fun vm₁ hal i hi => by
      rw [hkn] at hi
      have e : (vp_cell (G.2.2.2 6) (k, .inr (.inr (.inr (.inr f))))).slots.getD ((0 : Int32).toNatClampNeg + i) .null = va_rf (f i) := by
        rw [z0, Nat.zero_add]
        show (arrV (G.2.2.2 6) k (fun j => va_rf (f j))).slots.getD _ _ = _
        rw [Array.getD_eq_getD_getElem?, arrV_read _ _ (by omega)]
        rfl
      rw [e]
      cases hy : f i with
      | none => exact ⟨rfl, trivial⟩
      | some y =>
        obtain ⟨cellV, g1, g2, kC, hkC, g3⟩ := hel i hi y hy
        obtain ⟨kE, hkE, -⟩ := Vm.findClass_spec r3
        obtain ⟨kC', hkC', -⟩ := hal.2.2 _ _ hkC
        obtain ⟨kE', hkE', -⟩ := hal.2.2 _ _ hkE
        refine ⟨rfl, cellV, (show T.heap[y]? = some cellV by rw [hT]; exact g1), (fun q h => by rw [h] at g2; cases g2), ⟨kC', hkC'⟩, ?_, ?_⟩
        · exact ⟨kE', hkE'⟩
        · show vm₁.assignable _ _ = true
          rw [hal.assignable]
          exact g3 _ r3)
    (g := F0 m pc la (.int nI0 :: .int 0 :: .ref a :: .int 0 :: .ref a0 :: rest)) rfl (by rw [hz]) (rest := rest) rfl (by rw [hb]; exact hd) hframes (by show 2 * 0 + _ + _ ≤ _; omega)
  have e1 : copied (vp_cell (G.2.2.2 6) (k, .inr (.inr (.inr (.inr f))))) (vp_cell (G.2.2.2 6) (N, .inr (.inr (.inr (.inr g))))) 0 0 nI0 = vp_cell (G.2.2.2 6) (N, .inr (.inr (.inr (.inr (va_cpy f g 0 0 k))))) := by
    rw [vp_cell_q, vp_cell_q, vp_cell_q]
    have h4 : (0 : Int32).toNatClampNeg + nI0.toNatClampNeg ≤ k := by rw [z0, hkn]; omega
    refine (va_copied (fun z => va_rf z) (G.2.2.2 6) (G.2.2.2 6) f g h4).trans ?_
    rw [z0, hkn]
  rw [e1] at X' step
  have hl : a < H.size := (Array.getElem?_eq_some_iff.mp hc1).1
  have hheap : ((T.setVm vm').setCell a (vp_cell (G.2.2.2 6) (N, .inr (.inr (.inr (.inr (va_cpy f g 0 0 k))))))).heap = H.setIfInBounds a (vp_cell (G.2.2.2 6) (N, .inr (.inr (.inr (.inr (va_cpy f g 0 0 k)))))) := by rw [← hT]; rfl
  obtain ⟨t, a1, b1⟩ := kk (H.setIfInBounds a (vp_cell (G.2.2.2 6) (N, .inr (.inr (.inr (.inr (va_cpy f g 0 0 k))))))) _ (fun z hz9 => by
      obtain ⟨y, -, hy⟩ := List.mem_map.mp hz9
      rw [← hy]) (by simp [Array.getElem?_setIfInBounds, hl]) (by simp) (fun z hz9 => by simp [Array.getElem?_setIfInBounds, Ne.symm hz9]) _ hheap X'
  exact ⟨t, step t a1, b1⟩
end HMP
abbrev hm_q73 : hm_Q := (hm_y73, prog_20_method_120_code, 4, (some (.array (.object "java/lang/Object"))), 11, 3, 0)
abbrev hm_q72 : hm_Q := (hm_y72, prog_20_method_119_code, 2, (some (.array (.object "java/lang/Object"))), 11, 2, 0)
theorem hm_isO_ok {G : hm_E} {s : State} {hp : hm_H} {H : Heap} (hR : hm_R G s hp H) (hNW : hm_NW s) {b : Nat} (h : hm_isO hp (some b) = true) : ∃ cellV : Cell, H[hm_rho G b]? = some cellV ∧ cellV.vm.isStatics = false ∧ ∃ kC, s.vm.classes[cellV.cls]? = some kC ∧ ∀ comp : ClassId, s.vm.findClass "java/lang/Object" = some comp → s.vm.assignable cellV.cls comp = true := by
  unfold hm_isO at h
  dsimp only at h
  split at h
  next cj fs hb =>
    have hcj : cj < 10 := of_decide_eq_true h
    obtain ⟨-, hat⟩ := hR.2.2.1 b _ hb
    obtain ⟨rb, hrb, cellV, g1, g2, g3, -⟩ := id hat
    have hcls := (hR.1.1 cj rb hrb).2
    obtain ⟨kC, hkC, -⟩ := hcls.2
    refine ⟨cellV, g1, by rw [g3]; rfl, kC, by rw [g2]; exact hkC, fun comp hcomp => ?_⟩
    have hm : Cond.castable rb.1 "java/lang/Object" ∈ tables_1 := hm_castO cj hcj rb hrb
    obtain ⟨c0, t0, f1, f2, f3⟩ := Cond.castable_spec (va_Nw.use (A := #[]) rfl (hNW.1 _ hm rfl))
    cases hcomp.symm.trans f2
    cases f1.symm.trans hcls.1
    rw [g2]
    exact f3
  next => cases h
set_option maxHeartbeats 2000000 in
/-- Arrays.copyOf(Object[], int, Class) with the class of Object[] -/
theorem hm_m73 (l : Launch) (G : hm_E) {hp : hm_H} {a k N mi : Nat} {nn : Int32} {f : Nat → Option Nat} (hha : hp.1 a = some (.inl (6, k, .inr (.inr (.inr (.inr f)))))) (hn : ¬ nn < 0) (hN : nn.toNatClampNeg = N) (hN5 : N ≤ 100000) (hkN : k ≤ N) (hob : hm_objs hp f k = true) :
    Met l hm_y73 (Cond.code hm_y73 prog_20_method_120_code 4 (some (.array (.object "java/lang/Object"))) :: hm_tb) (hm_rm 1 1 N) (fun v U => v = [.ref (hm_rho G a), .int nn, .ref mi].toArray ∧ hm_R G U hp U.heap ∧ hm_NW U ∧ va_Mi "[Ljava/lang/Object;" mi U) (hm_Post G (some (.ref (hp.2.1 + 4))) (hm_cp hp k N f)) 1 N (fun x => G.1 ≤ x) := by
  obtain ⟨⟨w1, w2, w3, w4, w5, w6⟩, -⟩ := hm_mfacts (M := 73) (q := hm_q73) (by decide) (by decide) rfl
  refine va_MetF (cc := prog_20_method_120_code) (maxL := 4) (ret := some (.array (.object "java/lang/Object"))) w5 rfl ?_
  intro p e s m args below meth c s₁ B hml hv
  obtain ⟨rfl, hR, hNW, hMi⟩ := hv
  have hts := atoms_spec (ws := Cond.code hm_y73 prog_20_method_120_code 4 (some (.array (.object "java/lang/Object"))) :: hm_tb) B.pre
  have C0 : hm_Cx p s m [.ref (hm_rho G a), .int nn, .ref mi].toArray meth c hm_q73 := ⟨B.exec, B.bytes, hml, B.returns, B.notSynchronized, findClass_of_methodNamed B.named, fun z => (name_of_methodNamed B.named B.method).1.trans z, w3, fun w hw => hts w (List.mem_cons_of_mem _ hw), hNW⟩
  obtain ⟨hx, hb, -, hr, hlocks, hown, -, -, hts2, -⟩ := id C0
  have hl := lv_entry ([.ref (hm_rho G a), .int nn, .ref mi]) (n := 4) (Nat.le_of_ble_eq_true rfl)
  rw [lg_entry_eq]
  generalize (lg_sl ([.ref (hm_rho G a), .int nn, .ref mi]) ++ List.replicate (4 - (lg_sl ([.ref (hm_rho G a), .int nn, .ref mi])).length) Slot.unset).toArray = la at hl ⊢
  have hl : lv_has la 4 [(0, .ref (hm_rho G a)), (1, .int nn), (2, .ref mi)] := hl
  have hz : la.size = c.maxLocals := by rw [hml]; exact hl.1
  have hf0 : ∀ q ∈ ([] : List Loc), G.1 ≤ q.base := fun q hq => by cases hq
  refine lv_aload_n hx hb (show decode prog_20_method_120_code 0 = .ok (.aload_n 2, 1) by decide +kernel) rfl (lv_at hl 2 rfl) ?_
  refine va_ldcM hx hb hown (hts2 (.classLink "java/util/Arrays" 110 "[Ljava/lang/Object;") (hm_tb_of (List.mem_of_getElem? (i := 500) (by decide +kernel)) rfl)) hMi (show decode prog_20_method_120_code 1 = .ok (.ldc 110, 2) by decide +kernel) ?_
  refine lv_acmp_ne (rx := some mi) (ry := some mi) (tgt := 13) hx hb (show decode prog_20_method_120_code 3 = .ok (.if_acmp .ne 10, 3) by decide +kernel) (by decide) (fun z => absurd rfl z) (fun _ => ?_)
  have hL : hm_L G la [.ref a, .int nn, .retAddr 0, .retAddr 0] := by
    refine ⟨hl.1, hl.2.1, fun q hq => ?_⟩
    obtain ⟨v, hv1, hv2, hv3⟩ := hm_ll_val hq
    obtain ⟨qi, qv⟩ := q
    dsimp only at hv1 hv2
    subst hv2
    match qi, hv1 with
    | 0, hv1 => cases hv1; exact hl.2.2 (0, .ref (hm_rho G a)) (by simp)
    | 1, hv1 => cases hv1; exact hl.2.2 (1, .int nn) (by simp)
    | 2, hv1 => cases hv1; exact absurd rfl (hv3 0)
    | 3, hv1 => cases hv1; exact absurd rfl (hv3 0)
    | qi + 4, hv1 => cases hv1
  have ha5 : 4 ≤ a ∧ a < hp.2.1 + 4 := by
    have h9 := hR.2.2.1 a _ hha
    have hlt := h9.lt
    rw [hR.2.1] at hlt
    rcases h9 with ⟨-, h4, -⟩ | ⟨h1, -⟩ | ⟨h1, -⟩
    · rw [hm_rho_new h4] at hlt
      exact ⟨h4, by omega⟩
    · exact absurd h1 (by decide)
    · exact absurd h1 (by decide)
  have hR73 : (hm_rm 1 1 N).cells = 1 := rfl
  obtain ⟨hpA, hpAe⟩ : ∃ x : hm_H, x = hm_push hp (.inl (6, N, .inr (.inr (.inr (.inr (fun _ => none)))))) N := ⟨_, rfl⟩
  have hAa : hpA.1 a = some (.inl (6, k, .inr (.inr (.inr (.inr f))))) := by
    rw [hpAe]
    show (if a = hp.2.1 + 4 then _ else hp.1 a) = _
    rw [if_neg (by omega)]
    exact hha
  have hAn : hpA.1 (hp.2.1 + 4) = some (.inl (6, N, .inr (.inr (.inr (.inr (fun _ => none)))))) := by
    rw [hpAe]
    exact if_pos rfl
  have hA1 : hpA.2.1 = hp.2.1 + 1 := by rw [hpAe]; rfl
  have hA2 : hpA.2.2 = hp.2.2 + N := by rw [hpAe]; rfl
  have hkc : (Int32.ofNat k).toNatClampNeg = k := nI_clamp (by omega)
  have hNc : nn = nI N := by
    apply Int32.toInt_inj.mp
    have hz0 : (0 : Int) ≤ nn.toInt := by
      have := Int32.not_lt.mp hn
      simpa using Int32.le_iff_toInt_le.mp this
    rw [nI_toInt (by omega), ← hN]
    show nn.toInt = ((nn.toInt.toNat : Nat) : Int)
    omega
  let KK := fun (σ : hm_S) => hm_K p l e (hm_rm 1 1 N) s m [.ref (hm_rho G a), .int nn, .ref mi].toArray below meth c (MQ below (hm_Post G (some (.ref (hp.2.1 + 4))) (hm_cp hp k N f)) [.ref (hm_rho G a), .int nn, .ref mi].toArray s 1 N (fun x => G.1 ≤ x)) G hp.2.1 hp.2.2 σ
  have step : ∀ {pc n9 : Nat} {i : Instr} {ls st : List Value} {hq : hm_H} {σ : hm_S}, decode prog_20_method_120_code pc = .ok (i, n9) → (hm_ln i = n9 ∨ hm_ln i = 0) → hp.2.1 ≤ hq.2.1 → hp.2.2 ≤ hq.2.2 → (σ.2.2.2.2.1 - hp.2.1 ≤ 1 ∧ σ.2.2.2.2.2 - hp.2.2 ≤ N) → hm_step hm_q73 i pc ls st hq = some σ → KK σ → KK (pc, ls, st, hq) := fun hd hn h1 h2 h3 h4 k => hm_stepK C0 hd hn h1 h2 h3 (by show 1 ≤ 1 + 1; omega) (by show 20 ≤ 40 * (1 + 1); omega) h4 k
  have l3 : ∀ (hq : hm_H), hq = hm_cp hp k N f → KK (38, [.ref a, .int nn, .retAddr 0, .ref (hp.2.1 + 4)], [], hq) := by
    intro hq hqe
    subst hqe
    refine step (show decode prog_20_method_120_code 38 = .ok (.aload_n 3, 1) by decide +kernel) (Or.inl rfl) (by show hp.2.1 ≤ hp.2.1 + 1; omega) (by show hp.2.2 ≤ hp.2.2 + N; omega) ⟨by show hp.2.1 + 1 - hp.2.1 ≤ 1; omega, by show hp.2.2 + N - hp.2.2 ≤ N; omega⟩ (σ := (39, [.ref a, .int nn, .retAddr 0, .ref (hp.2.1 + 4)], [.ref (hp.2.1 + 4)], hm_cp hp k N f)) rfl ?_
    intro H locs la2 hR2 hL2 hz2 hf2
    refine W.cs (cells' := 1) (slots' := N) (by show hp.2.1 + 1 - hp.2.1 = 1; omega) (by show hp.2.2 + N - hp.2.2 = N; omega) ?_
    exact W.aret hx hb hr (Or.inr ⟨_, rfl⟩) (Or.inr ⟨_, rfl⟩) (fun t ht hW => ⟨rfl, by rw [ht]; exact hR2.moved hW.alike⟩) hf2 (show decode prog_20_method_120_code 39 = .ok (.areturn, 1) by decide +kernel)
  have l35 : KK (35, [.ref a, .int nn, .retAddr 0, .ref (hp.2.1 + 4)], [.int (nI k), .int 0, .ref (hp.2.1 + 4), .int 0, .ref a], hpA) := by
    intro H locs la2 hR2 hL2 hz2 hf2
    have hc0 : H[hm_rho G a]? = some (vp_cell (G.2.2.2 6) (k, .inr (.inr (.inr (.inr (fun j => (f j).map (hm_rho G))))))) := by
      rcases hR2.2.2.1 a _ hAa with ⟨-, -, h3⟩ | ⟨h1, -⟩ | ⟨h1, -⟩
      · exact h3
      · exact absurd h1 (by decide)
      · exact absurd h1 (by decide)
    have hc1 : H[hm_rho G (hp.2.1 + 4)]? = some (vp_cell (G.2.2.2 6) (N, .inr (.inr (.inr (.inr (fun _ => none)))))) := by
      rcases hR2.2.2.1 _ _ hAn with ⟨-, -, h3⟩ | ⟨h1, -⟩ | ⟨h1, -⟩
      · exact h3
      · exact absurd h1 (by decide)
      · exact absurd h1 (by decide)
    refine hm_acopy (G := G) (f := fun j => (f j).map (hm_rho G)) (g := fun _ => none) (k := k) (N := N) (a0 := hm_rho G a) (a := hm_rho G (hp.2.1 + 4)) (nI0 := nI k) (rest := []) C0 hz2 (hts2 (.methodLink "java/util/Arrays" 150 arraycopyName) (hm_tb_of (List.mem_of_getElem? (i := 504) (by decide +kernel)) rfl)) hR2.1 hc0 hc1 (nI_pos (by omega)) hkc hkN ?_ (by show 1 ≤ 1 + 1; omega) (by show 0 + (nativeFrameWords "java/lang/System" "arraycopy" 5 + 11) ≤ 80; decide +kernel) (show decode prog_20_method_120_code 35 = .ok (.invokestatic 150, 3) by decide +kernel) ?_
    · intro j hj y hy
      cases hfj : f j with
      | none => rw [hfj] at hy; cases hy
      | some b =>
        rw [hfj] at hy
        cases hy
        have hO : hm_isO hpA (some b) = true := by
          have h9 := List.all_eq_true.mp hob j (List.mem_range.mpr hj)
          rw [hfj] at h9
          have hbn : b ≠ hp.2.1 + 4 := by
            intro hbe
            subst hbe
            unfold hm_isO at h9
            dsimp only at h9
            split at h9
            next cj fs hb9 =>
              have h8 := hR.2.2.1 _ _ hb9
              have hlt := h8.lt
              rw [hR.2.1, hm_rho_new (by omega)] at hlt
              omega
            next => cases h9
          unfold hm_isO at h9 ⊢
          dsimp only at h9 ⊢
          rw [show hpA.1 b = hp.1 b by rw [hpAe]; exact if_neg hbn]
          exact h9
        exact hm_isO_ok hR2 hNW hO
    · intro H1 L hLb e1 z1 o1
      refine W.cs (cells' := (hm_cp hp k N f).2.1 - hp.2.1) (slots' := (hm_cp hp k N f).2.2 - hp.2.2) (by show hpA.2.1 - hp.2.1 = _; rw [hA1]; rfl) (by show hpA.2.2 - hp.2.2 = _; rw [hA2]; rfl) ?_
      refine l3 _ rfl H1 _ la2 ?_ hL2 hz2 (t_lL (free := fun x => G.1 ≤ x) hf2 (fun q hq => by rw [hLb q hq]; exact hm_rho_ge (by omega)))
      have e9 : hm_set hpA (hp.2.1 + 4) (.inl (6, N, .inr (.inr (.inr (.inr (fun j => if j < k then f j else none)))))) = hm_cp hp k N f := by
        rw [hpAe]
        refine Prod.ext (funext fun j => ?_) rfl
        show (if j = hp.2.1 + 4 then _ else if j = hp.2.1 + 4 then _ else hp.1 j) = (if j = hp.2.1 + 4 then _ else hp.1 j)
        by_cases hj : j = hp.2.1 + 4
        · rw [if_pos hj, if_pos hj]
        · rw [if_neg hj, if_neg hj, if_neg hj]
      rw [← e9]
      refine hR2.set (by omega) z1 o1 (Or.inl ⟨by decide, by omega, ?_⟩)
      rw [e1]
      refine congrArg some (congrArg (fun g => vp_cell (G.2.2.2 6) (N, .inr (.inr (.inr (.inr g))))) (funext fun j => ?_))
      unfold va_cpy
      by_cases hj : j < k
      · simp [hj]
      · simp [hj]
  have l32 : KK (32, [.ref a, .int nn, .retAddr 0, .ref (hp.2.1 + 4)], [.int nn, .int (nI k), .int 0, .ref (hp.2.1 + 4), .int 0, .ref a], hpA) := by
    intro H locs la2 hR2 hL2 hz2 hf2
    refine va_mmin (own := "java/util/Arrays") (index := 304) (x := nI k) (y := nn) hx hb hz2.symm hown (hts2 (.methodLink "java/util/Arrays" 304 Lib.Math.min.name) (hm_tb_of (List.mem_of_getElem? (i := 503) (by decide +kernel)) rfl)) (hts2 (.static Lib.Math.min.name) (hm_tb_of (List.mem_of_getElem? (i := 389) (by decide +kernel)) rfl)) (hts2 (.initialized "java/lang/Math") (hm_tb_of (List.mem_of_getElem? (i := 12) (by decide +kernel)) rfl)) (hts2 (.code Lib.Math.min.name Lib.Math.min.code 2 (some .int)) (hm_tb_of (List.mem_of_getElem? (i := 390) (by decide +kernel)) rfl)) (by show 1 ≤ 1 + 1; omega) (by show 1 + (1 + (1 + (1 + 0))) + 13 ≤ 80; omega) (by show hpA.2.1 - hp.2.1 ≤ 1; omega) (by show hpA.2.2 - hp.2.2 ≤ N; omega) (show decode prog_20_method_120_code 32 = .ok (.invokestatic 304, 3) by decide +kernel) ?_
    rw [if_neg (by rw [hNc]; exact nI_nlt hkN (by omega))]
    exact l35 H locs la2 hR2 hL2 hz2 hf2
  have hcA : hp.2.1 ≤ hpA.2.1 := by omega
  have hsA : hp.2.2 ≤ hpA.2.2 := by omega
  have hbA : hpA.2.1 - hp.2.1 ≤ 1 ∧ hpA.2.2 - hp.2.2 ≤ N := ⟨by omega, by omega⟩
  have l6 : KK (6, [.ref a, .int nn, .retAddr 0, .retAddr 0], [], hp) := by
    refine step (show decode prog_20_method_120_code 6 = .ok (.iload_n 1, 1) by decide +kernel) (Or.inl rfl) (Nat.le_refl _) (Nat.le_refl _) ⟨by show hp.2.1 - hp.2.1 ≤ 1; omega, by show hp.2.2 - hp.2.2 ≤ N; omega⟩ (σ := (7, [.ref a, .int nn, .retAddr 0, .retAddr 0], [.int nn], hp)) rfl ?_
    refine step (show decode prog_20_method_120_code 7 = .ok (.anewarray 2, 3) by decide +kernel) (Or.inl rfl) (Nat.le_refl _) (Nat.le_refl _) hbA (σ := (10, [.ref a, .int nn, .retAddr 0, .retAddr 0], [.ref (hp.2.1 + 4)], hpA)) (hm_sel7 rfl rfl rfl rfl rfl rfl (by
      unfold hm_s7
      dsimp only
      rw [show hm_ntab.lookup (11, 2) = some (22, 502) by decide +kernel]
      dsimp only
      rw [if_pos ⟨Or.inr rfl, hn, by rw [hN]; exact hN5⟩, hpAe, hN]
      rfl)) ?_
    refine step (show decode prog_20_method_120_code 10 = .ok (.goto 14, 3) by decide +kernel) (Or.inl rfl) hcA hsA hbA (σ := (24, [.ref a, .int nn, .retAddr 0, .retAddr 0], [.ref (hp.2.1 + 4)], hpA)) rfl ?_
    refine step (show decode prog_20_method_120_code 24 = .ok (.astore_n 3, 1) by decide +kernel) (Or.inl rfl) hcA hsA hbA (σ := (25, [.ref a, .int nn, .retAddr 0, .ref (hp.2.1 + 4)], [], hpA)) rfl ?_
    refine step (show decode prog_20_method_120_code 25 = .ok (.aload_n 0, 1) by decide +kernel) (Or.inl rfl) hcA hsA hbA (σ := (26, [.ref a, .int nn, .retAddr 0, .ref (hp.2.1 + 4)], [.ref a], hpA)) rfl ?_
    refine step (show decode prog_20_method_120_code 26 = .ok (.iconst 0, 1) by decide +kernel) (Or.inl rfl) hcA hsA hbA (σ := (27, [.ref a, .int nn, .retAddr 0, .ref (hp.2.1 + 4)], [.int 0, .ref a], hpA)) rfl ?_
    refine step (show decode prog_20_method_120_code 27 = .ok (.aload_n 3, 1) by decide +kernel) (Or.inl rfl) hcA hsA hbA (σ := (28, [.ref a, .int nn, .retAddr 0, .ref (hp.2.1 + 4)], [.ref (hp.2.1 + 4), .int 0, .ref a], hpA)) rfl ?_
    refine step (show decode prog_20_method_120_code 28 = .ok (.iconst 0, 1) by decide +kernel) (Or.inl rfl) hcA hsA hbA (σ := (29, [.ref a, .int nn, .retAddr 0, .ref (hp.2.1 + 4)], [.int 0, .ref (hp.2.1 + 4), .int 0, .ref a], hpA)) rfl ?_
    refine step (show decode prog_20_method_120_code 29 = .ok (.aload_n 0, 1) by decide +kernel) (Or.inl rfl) hcA hsA hbA (σ := (30, [.ref a, .int nn, .retAddr 0, .ref (hp.2.1 + 4)], [.ref a, .int 0, .ref (hp.2.1 + 4), .int 0, .ref a], hpA)) rfl ?_
    refine step (show decode prog_20_method_120_code 30 = .ok (.arraylength, 1) by decide +kernel) (Or.inl rfl) hcA hsA hbA (σ := (31, [.ref a, .int nn, .retAddr 0, .ref (hp.2.1 + 4)], [.int (nI k), .int 0, .ref (hp.2.1 + 4), .int 0, .ref a], hpA)) (hm_sel5 rfl rfl rfl rfl (by
      unfold hm_s5
      dsimp only
      rw [hAa]
      rfl)) ?_
    exact step (show decode prog_20_method_120_code 31 = .ok (.iload_n 1, 1) by decide +kernel) (Or.inl rfl) hcA hsA hbA (σ := (32, [.ref a, .int nn, .retAddr 0, .ref (hp.2.1 + 4)], [.int nn, .int (nI k), .int 0, .ref (hp.2.1 + 4), .int 0, .ref a], hpA)) rfl l32
  exact W.cs (show 0 = hp.2.1 - hp.2.1 by omega) (show 0 = hp.2.2 - hp.2.2 by omega) (l6 s.heap [] la hR hL hz hf0)
set_option maxHeartbeats 2000000 in
/-- Arrays.copyOf(Object[], int) -/
theorem hm_m72 (l : Launch) (G : hm_E) {hp : hm_H} {a k N : Nat} {nn : Int32} {f : Nat → Option Nat} (hha : hp.1 a = some (.inl (6, k, .inr (.inr (.inr (.inr f)))))) (hn : ¬ nn < 0) (hN : nn.toNatClampNeg = N) (hN5 : N ≤ 100000) (hkN : k ≤ N) (hob : hm_objs hp f k = true) :
    Met l hm_y72 (Cond.code hm_y72 prog_20_method_119_code 2 (some (.array (.object "java/lang/Object"))) :: hm_tb) (hm_rm 3 ((hm_cp hp k N f).2.1 - hp.2.1) ((hm_cp hp k N f).2.2 - hp.2.2)) (hm_Pre G [.ref a, .int nn] hp) (hm_Post G (some (.ref (hp.2.1 + 4))) (hm_cp hp k N f)) ((hm_cp hp k N f).2.1 - hp.2.1) ((hm_cp hp k N f).2.2 - hp.2.2) (fun x => G.1 ≤ x) := by
  obtain ⟨⟨w1, w2, w3, w4, w5, w6⟩, -⟩ := hm_mfacts (M := 72) (q := hm_q72) (by decide) (by decide) rfl
  obtain ⟨⟨v1, v2, v3, v4, v5, v6⟩, v7, -⟩ := hm_mfacts (M := 73) (q := hm_q73) (by decide) (by decide) rfl
  have e1 : (hm_cp hp k N f).2.1 - hp.2.1 = 1 := by show hp.2.1 + 1 - hp.2.1 = 1; omega
  have e2 : (hm_cp hp k N f).2.2 - hp.2.2 = N := by show hp.2.2 + N - hp.2.2 = N; omega
  refine va_MetF (cc := prog_20_method_119_code) (maxL := 2) (ret := some (.array (.object "java/lang/Object"))) w5 rfl ?_
  intro p e s m args below meth c s₁ B hml hv
  obtain ⟨rfl, hR, hNW⟩ := hv
  have hts := atoms_spec (ws := Cond.code hm_y72 prog_20_method_119_code 2 (some (.array (.object "java/lang/Object"))) :: hm_tb) B.pre
  have C0 : hm_Cx p s m (([.ref a, .int nn] : List Value).map (hm_v G)).toArray meth c hm_q72 := ⟨B.exec, B.bytes, hml, B.returns, B.notSynchronized, findClass_of_methodNamed B.named, fun z => (name_of_methodNamed B.named B.method).1.trans z, w3, fun w hw => hts w (List.mem_cons_of_mem _ hw), hNW⟩
  obtain ⟨hx, hb, -, hr, hlocks, hown, -, -, hts2, -⟩ := id C0
  obtain ⟨mi, hMi⟩ := hNW.2.2.2.2.2.1
  have hl := lv_entry ([.ref (hm_rho G a), .int nn]) (n := 2) (Nat.le_of_ble_eq_true rfl)
  rw [lg_entry_eq]
  generalize hla : (lg_sl (([.ref a, .int nn] : List Value).map (hm_v G)) ++ List.replicate (2 - (lg_sl (([.ref a, .int nn] : List Value).map (hm_v G))).length) Slot.unset).toArray = la
  have hl : lv_has la 2 [(0, .ref (hm_rho G a)), (1, .int nn)] := by rw [← hla]; exact hl
  have hz : la.size = c.maxLocals := by rw [hml]; exact hl.1
  have hf0 : ∀ q ∈ ([] : List Loc), G.1 ≤ q.base := fun q hq => by cases hq
  refine lv_aload_n hx hb (show decode prog_20_method_119_code 0 = .ok (.aload_n 0, 1) by decide +kernel) rfl (lv_at hl 0 rfl) ?_
  refine lv_iload_n hx hb (show decode prog_20_method_119_code 1 = .ok (.iload_n 1, 1) by decide +kernel) rfl (lv_at hl 1 rfl) ?_
  refine lv_aload_n hx hb (show decode prog_20_method_119_code 2 = .ok (.aload_n 0, 1) by decide +kernel) rfl (lv_at hl 0 rfl) ?_
  have hrec : ∃ cell : Cell, s.heap[hm_rho G a]? = some cell ∧ cell.vm.isStatics = false ∧ s.vm.findClass "[Ljava/lang/Object;" = some cell.cls := by
    rcases hR.2.2.1 a _ hha with ⟨-, -, h3⟩ | ⟨h1, -⟩ | ⟨h1, -⟩
    · exact ⟨_, h3, rfl, va_nmO (C := "java/lang/Object") (hR.1.2 6 _ rfl).2 rfl⟩
    · exact absurd h1 (by decide)
    · exact absurd h1 (by decide)
  refine va_getC hx hb hz.symm hown (hts2 (.methodLink "java/util/Arrays" 86 ⟨"java/lang/Object", "getClass", "()Ljava/lang/Class;"⟩) (hm_tb_of (List.mem_of_getElem? (i := 483) (by decide +kernel)) rfl)) (va_Dc.use hNW.2.2.2.2.2.2) (hts2 (.selects "[Ljava/lang/Object;" ⟨"java/lang/Object", "getClass", "()Ljava/lang/Class;"⟩ ⟨"java/lang/Object", "getClass", "()Ljava/lang/Class;"⟩) (hm_tb_of (List.mem_of_getElem? (i := 1060) (by decide +kernel)) rfl)) (hts2 (.instanceMethod ⟨"java/lang/Object", "getClass", "()Ljava/lang/Class;"⟩) (hm_tb_of (List.mem_of_getElem? (i := 484) (by decide +kernel)) rfl)) (hts2 (.native ⟨"java/lang/Object", "getClass", "()Ljava/lang/Class;"⟩) (hm_tb_of (List.mem_of_getElem? (i := 496) (by decide +kernel)) rfl)) hMi hrec (by show 1 ≤ 3 + 1; omega) (by show 1 + (1 + 0) + 14 ≤ 40 * (3 + 1); omega) (show decode prog_20_method_119_code 3 = .ok (.invokevirtual 86, 3) by decide +kernel) ?_
  have hM : Met l hm_y73 (Cond.code hm_y73 prog_20_method_120_code 4 (some (.array (.object "java/lang/Object"))) :: hm_tb) (hm_rm 1 ((hm_cp hp k N f).2.1 - hp.2.1) ((hm_cp hp k N f).2.2 - hp.2.2)) (fun v U => v = [.ref (hm_rho G a), .int nn, .ref mi].toArray ∧ hm_R G U hp U.heap ∧ hm_NW U ∧ va_Mi "[Ljava/lang/Object;" mi U) (hm_Post G (some (.ref (hp.2.1 + 4))) (hm_cp hp k N f)) ((hm_cp hp k N f).2.1 - hp.2.1) ((hm_cp hp k N f).2.2 - hp.2.2) (fun x => G.1 ≤ x) := by
    rw [e1, e2]
    exact hm_m73 l G (mi := mi) hha hn hN hN5 hkN hob
  have hG := hm_goodIn (hm_cw_all 73 hm_q73 (by decide) rfl) rfl
  have hrun := va_runS (p := p) (l := l) (e := e) (R := hm_rm 3 ((hm_cp hp k N f).2.1 - hp.2.1) ((hm_cp hp k N f).2.2 - hp.2.2)) (s := s) (m := m) (below := below) (meth := meth) (c := c) (H := s.heap) (locs := []) (cells := hp.2.1 - hp.2.1) (slots := hp.2.2 - hp.2.2) (nL := 2) (Ts := hm_tb) (own := "java/util/Arrays") (index := 300) (As := [.ref (hm_rho G a), .int nn, .ref mi]) (rest := []) (n := 3) (g := F0 m 6 la [.ref mi, .int nn, .ref (hm_rho G a)]) ⟨hx, hb, hml, hown, hts2⟩ hM ⟨callB_of 3 hts2 hG rfl rfl rfl (hts2 _ (hm_tb_of v1 rfl)) (hts2 (.methodLink "java/util/Arrays" 300 hm_y73) (hm_tb_of (List.mem_of_getElem? (i := 497) (by decide +kernel)) rfl)) ⟨v2.1, v2.2, v6⟩ ⟨by show 1 + 1 + 1 ≤ 3 + 1; omega, by show 8 + (4 + 11) + 40 * (1 + 1) ≤ 40 * (3 + 1); omega⟩, hts2 _ (hm_tb_of (v7 rfl) rfl)⟩ ⟨fun a9 U g9 mk9 h9 => ⟨h9.1, hm_R.moved (u := U) (U := U.calling g9 mk9 a9) (Vm.Alike.refl U.vm) h9.2.1, hm_NW.same (u := U) (U := U.calling g9 mk9 a9) rfl h9.2.2.1, va_Mi.moved (u := U) (U := U.calling g9 mk9 a9) (Vm.Alike.refl U.vm) h9.2.2.2⟩, fun U hU hW => ⟨rfl, by rw [hU]; exact hR.moved hW.alike, hNW.warm hW, hMi.moved hW.alike⟩⟩ rfl rfl (hz.trans hml) rfl (lv_room (Nat.le_of_ble_eq_true rfl)) (show decode prog_20_method_119_code 6 = .ok (.invokestatic 300, 3) by decide +kernel) ⟨by show hp.2.1 - hp.2.1 + (hp.2.1 + 1 - hp.2.1) ≤ hp.2.1 + 1 - hp.2.1; omega, by show hp.2.2 - hp.2.2 + (hp.2.2 + N - hp.2.2) ≤ hp.2.2 + N - hp.2.2; omega⟩
  refine W.cs (show 0 = hp.2.1 - hp.2.1 by omega) (show 0 = hp.2.2 - hp.2.2 by omega) ?_
  refine hm_finK (G := G) (hp1 := hm_cp hp k N f) (r1 := some (.ref (hp.2.1 + 4))) (rest0 := []) hrun (hm_push_le _ _ _) (Nat.le_refl _) (Nat.le_refl _) hf0 (fun H1 locs1 hR1 hf1 => ?_)
  exact W.aret hx hb hr (Or.inr ⟨_, rfl⟩) (Or.inr ⟨_, rfl⟩) (fun t ht hW => ⟨rfl, by rw [ht]; exact hR1.moved hW.alike⟩) hf1 (show decode prog_20_method_119_code 9 = .ok (.areturn, 1) by decide +kernel)
section HMQ
variable {p : Program} {l : Launch} {e : Env} {R : Room} {s : State} {m : MethodId} {args : Array Value} {below : List Frame} {meth : Method} {c : Code} {Q : State → Prop}
variable {pc n n0 s0 : Nat} {i : Instr} {ls st : List Value} {hp hp1 : hm_H} {σ : hm_S} {G : hm_E} {q : hm_Q}
theorem hm_cpyK (hmir : ∃ mi : Nat, hm_mir l G mi) (C0 : hm_Cx p s m args meth c q) (hd : decode q.2.1 pc = .ok (i, n)) (hn : hm_ln i = n ∨ hm_ln i = 0) {a : Nat} {rest : List Value} {hp1 : hm_H} (h : hm_cpy q i st hp = some (a, rest, hp1)) (hn0 : n0 ≤ hp.2.1) (hs0 : s0 ≤ hp.2.2) (hc1 : hp1.2.1 - n0 ≤ R.cells) (hs1 : hp1.2.2 - s0 ≤ R.slots) (hfr : 6 ≤ R.frames) (hlo : 240 ≤ R.locals) (k : hm_K p l e R s m args below meth c Q G n0 s0 (pc + 3, ls, .ref a :: rest, hp1)) : hm_K p l e R s m args below meth c Q G n0 s0 (pc, ls, st, hp) := by
  intro H locs la hR hL hz hf
  obtain ⟨hx, hb, hml, hr, hlk, hown, hnm, hw0, hts, hNW⟩ := id C0
  obtain ⟨⟨w1, w2, w3, w4, w5, w6⟩, w7, -⟩ := hm_mfacts (M := 72) (q := hm_q72) (by decide) (by decide) rfl
  unfold hm_cpy at h
  split at h
  next nn b r htg =>
    split at h
    next kk9 f hha =>
      split at h
      next hc =>
        obtain ⟨⟨hn9, hN5⟩, hkN, hrl, hob⟩ := hc
        cases h
        unfold hm_tgt at htg
        split at htg
        · obtain rfl : n = 3 := hm_lnE hn rfl (by decide)
          obtain ⟨⟨c3, nst, w⟩, hlf, he⟩ := Option.map_eq_some_iff.mp htg
          cases he
          have hM := hm_m72 l G hha hn9 rfl hN5 hkN hob
          have hG := hm_goodIn (hm_cw_all 72 hm_q72 (by decide) rfl) rfl
          have hc1' : hp.2.1 + 1 - n0 ≤ R.cells := hc1
          have hs1' : hp.2.2 + nn.toNatClampNeg - s0 ≤ R.slots := hs1
          have hroom : (hm_rm 3 ((hm_cp hp kk9 nn.toNatClampNeg f).2.1 - hp.2.1) ((hm_cp hp kk9 nn.toNatClampNeg f).2.2 - hp.2.2)).frames + 1 ≤ R.frames ∧ 8 + (2 + 11) + (hm_rm 3 ((hm_cp hp kk9 nn.toNatClampNeg f).2.1 - hp.2.1) ((hm_cp hp kk9 nn.toNatClampNeg f).2.2 - hp.2.2)).locals ≤ R.locals := ⟨by show 3 + 1 + 1 ≤ R.frames; omega, by show 8 + (2 + 11) + 40 * (3 + 1) ≤ R.locals; omega⟩
          have hfit : hp.2.1 - n0 + ((hm_cp hp kk9 nn.toNatClampNeg f).2.1 - hp.2.1) ≤ R.cells ∧ hp.2.2 - s0 + ((hm_cp hp kk9 nn.toNatClampNeg f).2.2 - hp.2.2) ≤ R.slots := ⟨by show hp.2.1 - n0 + (hp.2.1 + 1 - hp.2.1) ≤ R.cells; omega, by show hp.2.2 - s0 + (hp.2.2 + nn.toNatClampNeg - hp.2.2) ≤ R.slots; omega⟩
          have hpre : ∀ U : State, U.heap = H → s.WarmedH U.vm → hm_Pre G [.ref b, .int nn] hp (([.ref b, .int nn] : List Value).map (hm_v G)).toArray U := fun U hU hW => ⟨rfl, by rw [hU]; exact hR.moved hW.alike, hNW.warm hW⟩
          have hstat := hts _ (hm_tb_of (w7 rfl) rfl)
          have hini := hts _ (hm_tb_of w1 rfl)
          refine hm_finK (G := G) (hp1 := hm_cp hp kk9 nn.toNatClampNeg f) (r1 := some (.ref (hp.2.1 + 4))) (rest0 := rest.map (hm_v G)) (a9 := (([.ref b, .int nn] : List Value).map (hm_v G)).toArray) ?_ (hm_push_le _ _ _) hn0 hs0 hf (fun H1 locs1 hR1 hf1 => k H1 locs1 la hR1 hL hz hf1)
          rcases hm_clk C0 (rq := hm_q72) rfl hlf with hlink | hlink
          · exact va_runS ⟨hx, hb, hml, hown, hts⟩ hM ⟨callB_of 2 hts hG rfl rfl rfl hini hlink ⟨w2.1, w2.2, w6⟩ hroom, hstat⟩ ⟨hm_Pre.blind _ _ _, hpre⟩ rfl rfl (hz.trans hml) rfl (lv_room (hm_sum _ hrl)) hd hfit
          · exact va_runSN ⟨hx, hb, hml, hown, hts⟩ hM ⟨va_cnB 2 hts hG rfl rfl rfl hlink hini ⟨w2.1, w2.2, w6⟩ hroom, hstat, trivial⟩ ⟨hm_Pre.blind _ _ _, hpre⟩ rfl rfl (hz.trans hml) rfl (lv_room (hm_sum _ hrl)) hd hfit
        · obtain ⟨⟨c3, nst, w⟩, hlf, he⟩ := Option.map_eq_some_iff.mp htg
          cases he
        · obtain ⟨⟨c3, nst, w⟩, hlf, he⟩ := Option.map_eq_some_iff.mp htg
          cases he
        · cases htg
      next => cases h
    next => cases h
  next => cases h
end HMQ
