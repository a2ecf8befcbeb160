theorem hm_df_at {ci : Nat} {r : vw_C} (h : hm_cls[ci]? = some r) (G : hm_E) : ∀ j, j < r.2.2 → defaultValue (hm_fty ci j) = vp_V ((hm_df ci).map (hm_v G)) j := by
  intro j hj
  have e1 : hm_df ci = (List.range r.2.2).map fun k => defaultValue (hm_fty ci k) := by unfold hm_df; rw [h]
  rw [e1]
  unfold vp_V
  rw [List.getD_eq_getElem?_getD, List.getElem?_map, List.getElem?_map, List.getElem?_range hj]
  show _ = hm_v G (defaultValue (hm_fty ci j))
  cases hm_fty ci j <;> rfl
theorem hm_df_len {ci : Nat} {r : vw_C} (h : hm_cls[ci]? = some r) : (hm_df ci).length = r.2.2 := by
  unfold hm_df
  rw [h]
  simp
theorem hm_cls_lt {ci : Nat} (h : ci < 10) : ∃ r, hm_cls[ci]? = some r := ⟨_, List.getElem?_eq_getElem (l := hm_cls) (show ci < hm_cls.length from h)⟩
theorem hm_sum2 {G : hm_E} (r : List Value) (h : hm_cs r ≤ 8) : ((r.map (hm_v G)).map fun v => v.category).sum ≤ 8 := by
  have e : ((r.map (hm_v G)).map fun v => v.category) = r.map fun v => v.category := by
    rw [List.map_map]
    exact List.map_congr_left (fun v _ => hm_v_cat G v)
  rw [e]
  exact h
theorem hm_sum {G : hm_E} (r : List Value) (h : r.length ≤ 4) : ((r.map (hm_v G)).map fun v => v.category).sum ≤ 8 := by
  have key : ∀ (r : List Value), ((r.map (hm_v G)).map fun v => v.category).sum ≤ 2 * r.length := by
    intro r
    induction r with
    | nil => simp
    | cons a r ih =>
      have h1 : (hm_v G a).category ≤ 2 := by rcases lv_cat (hm_v G a) with h | h <;> omega
      simp only [List.map_cons, List.sum_cons, List.length_cons]
      omega
  have := key r
  omega
section HMN
variable {p : Program} {l : Launch} {e : Env} {R : Room} {s : State} {m : MethodId} {args : Array Value} {below : List Frame} {meth : Method} {c : Code} {Q : State → Prop}
variable {pc n n0 s0 : Nat} {i : Instr} {ls st : List Value} {hp : hm_H} {σ : hm_S} {G : hm_E} {q : hm_Q}
theorem hm_new_rho {H : Heap} {U : State} (hR : hm_R G U hp H) : hm_rho G (hp.2.1 + 4) = H.size := by
  rw [hm_rho_new (by omega), hR.2.1]
  omega
theorem hm_pushA {U : State} {H H1 : Heap} {t nn mm : Nat} {x : vp_A} (hR : hm_R G U hp H) (ht : t < 7) (e1 : H1[H.size]? = some (vp_cell (G.2.2.2 t) (hm_a G x))) (z1 : H1.size = H.size + 1) (o1 : ∀ z : Nat, z < H.size → H1[z]? = H[z]?) : hm_R G U (hm_push hp (.inl (t, x)) mm) H1 := by
  refine hR.push z1 o1 (Or.inl ⟨ht, by omega, ?_⟩)
  rw [hm_new_rho hR]
  exact e1
theorem hm_newref {H : Heap} {U : State} (hR : hm_R G U hp H) : hm_v G (.ref (hp.2.1 + 4)) = .ref H.size := by
  show Value.ref (hm_rho G (hp.2.1 + 4)) = _
  rw [hm_new_rho hR]
/-- a new array of numbers -/
theorem hm_newa (C0 : hm_Cx p s m args meth c q) {H : Heap} {locs : List Loc} {la : Array Slot} {r : List Value} {at_ : ArrayType} {t nn : Nat} {x : vp_A} {j : Int32} (hR : hm_R G s hp H) (ht : t < 7) (hw : (Cond.arrayClass (newarray.typeOf at_)).before args s = true) (hj : ¬ j < 0) (hN : j.toNatClampNeg = nn) (hbytes : nn * componentBytes (newarray.typeOf at_) ≤ 536870912) (hn0 : n0 ≤ hp.2.1) (hs0 : s0 ≤ hp.2.2) (hc : hp.2.1 + 1 - n0 ≤ R.cells) (hs : hp.2.2 + nn - s0 ≤ R.slots) (hfc : s.vm.findClass ("[" ++ (newarray.typeOf at_).toString) = some (G.2.2.2 t)) (hcell : vp_cell (G.2.2.2 t) (hm_a G x) = arrV (G.2.2.2 t) nn (fun _ => defaultValue (newarray.typeOf at_)))
    (hd : decode q.2.1 pc = .ok (.newarray at_, 2)) (k : ∀ H1 : Heap, hm_R G s (hm_push hp (.inl (t, x)) nn) H1 → W p l e R s m args below meth c H1 locs (hp.2.1 + 1 - n0) (hp.2.2 + nn - s0) Q (F0 m (pc + 2) la (hm_v G (.ref (hp.2.1 + 4)) :: r))) : W p l e R s m args below meth c H locs (hp.2.1 - n0) (hp.2.2 - s0) Q (F0 m pc la (.int j :: r)) := by
  obtain ⟨hx, hb, -⟩ := id C0
  refine va_newaK hx hb hw rfl hd rfl hj hN hbytes (by omega) (by omega) rfl (fun H1 cA e1 z1 o1 hAr hNm => ?_)
  have ecA : cA = G.2.2.2 t := Option.some.inj (hNm.symm.trans hfc)
  subst ecA
  have kk := k H1 (hm_pushA (nn := nn) hR ht (by rw [hcell]; exact e1) z1 o1)
  rw [hm_newref hR] at kk
  exact W.cs (by omega) (by omega) kk
theorem va_aoa {ty : FieldType} {A : Array Value} {U : State} (h : (Cond.arrayOver (.array ty)).before #[] U = true) : (Cond.arrayOver (.array ty)).before A U = true := h
theorem hm_outer (cc : ClassId) (N h0 : Nat) : ∀ i : Nat, Jvm.Free.Multi.outerC cc N h0 i = arrV cc N (fun j => va_rf (if j < i then some (h0 + 1 + j) else none))
  | 0 => by
    rw [Jvm.Free.Multi.outerC, arrV_new]
    exact congrArg (arrV cc N) (funext fun j => by simp [va_rf])
  | i + 1 => by
    rw [Jvm.Free.Multi.outerC, hm_outer cc N h0 i, arrV_store]
    refine congrArg (arrV cc N) (funext fun j => ?_)
    by_cases hj : j = i
    · subst hj
      simp [updV, va_rf]
    · by_cases hlt : j < i
      · simp [updV, hj, hlt, show j < i + 1 by omega]
      · simp [updV, hj, hlt, show ¬ j < i + 1 by omega]
set_option maxHeartbeats 1000000 in
/-- rows of numbers and the array that holds them -/
theorem hm_mna (C0 : hm_Cx p s m args meth c q) {H : Heap} {locs : List Loc} {la : Array Slot} {r : List Value} {t ix : Nat} {ty : FieldType} {z : vp_A} {j k1 : Int32} (hR : hm_R G s hp H) (ht : t < 7) (ht3 : t + 3 < 7) (hlink : (Cond.classLink q.1.cls ix ("[" ++ (FieldType.array ty).toString)).before args s = true) (hov : (Cond.arrayOver (.array ty)).before args s = true) (hac : (Cond.arrayClass ty).before args s = true)
    (hfA : s.vm.findClass ("[" ++ (FieldType.array ty).toString) = some (G.2.2.2 (t + 3))) (hfI : s.vm.findClass (FieldType.array ty).toString = some (G.2.2.2 t)) (hj : ¬ j < 0) (hk1 : ¬ k1 < 0) (hjn : j.toNatClampNeg ≤ 100000) (hkn : k1.toNatClampNeg ≤ 100000) (hby : k1.toNatClampNeg * componentBytes ty ≤ 536870912) (hdf : fits ty (defaultValue ty) = true) (hdd : (defaultValue ty).isDefault = true) (hin : ∀ cc : ClassId, Jvm.Free.Multi.innerC cc k1.toNatClampNeg (defaultValue ty) = vp_cell cc (hm_a G z))
    (hn0 : n0 ≤ hp.2.1) (hs0 : s0 ≤ hp.2.2) (hc : (hm_grid hp t j.toNatClampNeg k1.toNatClampNeg z).2.1 - n0 ≤ R.cells) (hs : (hm_grid hp t j.toNatClampNeg k1.toNatClampNeg z).2.2 - s0 ≤ R.slots) (hd : decode q.2.1 pc = .ok (.multianewarray ix 2, 4))
    (k : ∀ H1 : Heap, hm_R G s (hm_grid hp t j.toNatClampNeg k1.toNatClampNeg z) H1 → W p l e R s m args below meth c H1 locs ((hm_grid hp t j.toNatClampNeg k1.toNatClampNeg z).2.1 - n0) ((hm_grid hp t j.toNatClampNeg k1.toNatClampNeg z).2.2 - s0) Q (F0 m (pc + 4) la (hm_v G (.ref (hp.2.1 + 4)) :: r))) : W p l e R s m args below meth c H locs (hp.2.1 - n0) (hp.2.2 - s0) Q (F0 m pc la (.int k1 :: .int j :: r)) := by
  obtain ⟨hx, hb, -, -, -, hown, -⟩ := id C0
  have hc' : hp.2.1 + 1 + j.toNatClampNeg - n0 ≤ R.cells := hc
  have hs' : hp.2.2 + j.toNatClampNeg + j.toNatClampNeg * k1.toNatClampNeg - s0 ≤ R.slots := hs
  intro T hT Xs
  obtain ⟨vm₁, cA, comp, -, fA, fC, hO, -, X', step⟩ := Xs.multianewarray2F hx hown hlink hov hac (g := F0 m pc la (.int k1 :: .int j :: r)) rfl (by rw [hb]; exact hd) rfl hj hk1 (by omega) hby (by omega) hdf hdd (by omega) (by omega)
  have e1 : cA = G.2.2.2 (t + 3) := Option.some.inj (fA.symm.trans hfA)
  have e2 : comp = G.2.2.2 t := Option.some.inj (fC.symm.trans hfI)
  subst e1
  subst e2
  generalize hF : Jvm.Free.Multi.fill (T.setVm vm₁) (G.2.2.2 (t + 3)) (G.2.2.2 t) j.toNatClampNeg k1.toNatClampNeg (defaultValue ty) j.toNatClampNeg = F at X' step
  have hTh : (T.setVm vm₁).heap = H := hT
  obtain ⟨f1, f2, -, -⟩ := Jvm.Free.Multi.fill_facts (T.setVm vm₁) (G.2.2.2 (t + 3)) (G.2.2.2 t) j.toNatClampNeg k1.toNatClampNeg (defaultValue ty) j.toNatClampNeg
  rw [hF, hTh] at f1 f2
  have hold : ∀ x : Nat, x < H.size → F.heap[x]? = H[x]? := fun x hx9 => by
    have h9 := Jvm.Free.Multi.fill_old (T.setVm vm₁) (G.2.2.2 (t + 3)) (G.2.2.2 t) j.toNatClampNeg k1.toNatClampNeg (defaultValue ty) (a := x) (by rw [hTh]; exact hx9) j.toNatClampNeg
    rw [hF, hTh] at h9
    exact h9
  have hrow : ∀ i9 : Nat, i9 < j.toNatClampNeg → F.heap[H.size + 1 + i9]? = some (vp_cell (G.2.2.2 t) (hm_a G z)) := fun i9 hi9 => by
    have h9 := Jvm.Free.Multi.fill_inner (T.setVm vm₁) (G.2.2.2 (t + 3)) (G.2.2.2 t) j.toNatClampNeg k1.toNatClampNeg (defaultValue ty) j.toNatClampNeg i9 hi9
    rw [hF, hTh, hin] at h9
    exact h9
  have hsz := hR.2.1
  have hg : hm_R G s (hm_grid hp t j.toNatClampNeg k1.toNatClampNeg z) F.heap := by
    refine ⟨hR.1, ?_, fun i9 x hx9 => ?_, fun i9 h0 h4 => (hR.2.2.2 i9 h0 h4).kept fun a ha _ => hold a ha⟩
    · rw [f1, hsz]
      show _ = G.1 + (hp.2.1 + 1 + j.toNatClampNeg)
      omega
    · have hx8 : (if i9 = hp.2.1 + 4 then some (Sum.inl (t + 3, j.toNatClampNeg, .inr (.inr (.inr (.inr (fun i => if i < j.toNatClampNeg then some (hp.2.1 + 5 + i) else none)))))) else if hp.2.1 + 4 < i9 ∧ i9 < hp.2.1 + 5 + j.toNatClampNeg then some (.inl (t, z)) else hp.1 i9 : Option va_E) = some x := hx9
      split at hx8
      next hi =>
        cases hx8
        subst hi
        refine Or.inl ⟨ht3, by omega, ?_⟩
        rw [hm_new_rho hR, f2, hm_outer]
        show some (arrV (G.2.2.2 (t + 3)) j.toNatClampNeg (fun i => va_rf (if i < j.toNatClampNeg then some (H.size + 1 + i) else none))) = some (arrV (G.2.2.2 (t + 3)) j.toNatClampNeg (fun i => va_rf ((if i < j.toNatClampNeg then some (hp.2.1 + 5 + i) else none).map (hm_rho G))))
        refine congrArg some (congrArg (arrV _ _) (funext fun i => congrArg va_rf ?_))
        by_cases hlt : i < j.toNatClampNeg
        · rw [if_pos hlt, if_pos hlt]
          show some (H.size + 1 + i) = some (hm_rho G (hp.2.1 + 5 + i))
          rw [hm_rho_new (by omega), hsz]
          congr 1
          omega
        · rw [if_neg hlt, if_neg hlt]
          rfl
      next hi =>
        split at hx8
        next hb9 =>
          cases hx8
          refine Or.inl ⟨ht, by omega, ?_⟩
          have h9 := hrow (i9 - hp.2.1 - 5) (by omega)
          rw [hm_rho_new (by omega), show G.1 + (i9 - 4) = H.size + 1 + (i9 - hp.2.1 - 5) by omega]
          exact h9
        next =>
          have hcl := hR.2.2.1 i9 x hx8
          exact hcl.kept (hold _ hcl.lt)
  obtain ⟨t2, a1, b1⟩ := k F.heap hg F rfl (by
    have e3 : hp.2.1 - n0 + 1 + j.toNatClampNeg = (hm_grid hp t j.toNatClampNeg k1.toNatClampNeg z).2.1 - n0 := by
      show _ = hp.2.1 + 1 + j.toNatClampNeg - n0
      omega
    have e4 : hp.2.2 - s0 + j.toNatClampNeg + j.toNatClampNeg * k1.toNatClampNeg = (hm_grid hp t j.toNatClampNeg k1.toNatClampNeg z).2.2 - s0 := by
      show _ = hp.2.2 + j.toNatClampNeg + j.toNatClampNeg * k1.toNatClampNeg - s0
      omega
    rw [← e3, ← e4]
    exact X')
  refine ⟨t2, step t2 ?_, b1⟩
  rw [hm_newref hR] at a1
  rw [hT]
  exact a1
theorem hm_o7 (C0 : hm_Cx p s m args meth c q) (hd : decode q.2.1 pc = .ok (i, n)) (hn : hm_ln i = n ∨ hm_ln i = 0) (hn0 : n0 ≤ hp.2.1) (hs0 : s0 ≤ hp.2.2) (hcs : σ.2.2.2.2.1 - n0 ≤ R.cells ∧ σ.2.2.2.2.2 - s0 ≤ R.slots) (h : hm_s7 q.2.2.2.2.1 i pc ls st hp = some σ) (k : hm_K p l e R s m args below meth c Q G n0 s0 σ) : hm_K p l e R s m args below meth c Q G n0 s0 (pc, ls, st, hp) := by
  intro H locs la hR hL hz hf
  obtain ⟨hx, hb, hml, hr, hlk, hown, hnm, hw0, hts, hNW⟩ := id C0
  obtain ⟨hK, hsz, hcl, hst⟩ := id hR
  unfold hm_s7 at h
  split at h
  · obtain rfl : n = 3 := hm_lnE hn rfl (by decide)
    rename_i ix
    split at h
    next ci w hlf =>
      split at h
      next hci =>
        cases h
        obtain ⟨r, hrc⟩ := hm_cls_lt hci
        have hlink := hm_nlk C0 hlf
        rw [hm_nnm hrc] at hlink
        have hlen := hm_df_len hrc
        have hc1 : hp.2.1 + 1 - n0 ≤ R.cells := hcs.1
        have hc2 : hp.2.2 + (hm_df ci).length - s0 ≤ R.slots := hcs.2
        rw [hlen] at hc2
        have hKn := hK.1 ci _ hrc
        refine W.newcK hx hb hown hlink (hts _ (hm_kinst hrc).1) (hts _ (hm_kinst hrc).2) rfl hd (by show hp.2.1 - n0 + 1 ≤ R.cells; omega) (by show hp.2.2 - s0 + r.2.2 ≤ R.slots; omega) hKn.2.1 rfl (fun H1 kC hkC e1 z1 o1 => ?_)
        have hat : va_at G.2.2.1 hm_cls (H.size, .inr (ci, (hm_df ci).map (hm_v G))) H1 := ⟨r, hrc, (u_born (hm_fty ci) hts (hm_kin hrc) hKn hkC e1 (hm_tyok ci r hrc)).to (hm_df_at hrc G)⟩
        have hR1 : hm_R G s (hm_push hp (.inr (ci, hm_df ci)) (hm_df ci).length) H1 := by
          refine hR.push z1 o1 ⟨by omega, ?_⟩
          rw [hm_new_rho hR]
          exact hat
        have kk := k H1 locs la hR1 hL hz hf
        refine W.cs (cells' := hp.2.1 + 1 - n0) (slots' := hp.2.2 + (hm_df ci).length - s0) (by show hp.2.1 - n0 + 1 = _; omega) (by show hp.2.2 - s0 + r.2.2 = _; omega) ?_
        have e2 := hm_newref (G := G) hR
        show W p l e R s m args below meth c H1 locs _ _ Q (F0 m (pc + 3) la (.ref H.size :: List.map (hm_v G) st))
        rw [← e2]
        exact kk
      next => cases h
    next => cases h
  · obtain rfl : n = 2 := hm_lnE hn rfl (by decide)
    split at h
    next hc =>
      cases h
      exact hm_newa (at_ := .int) (t := 0) (x := (_, .inl (fun _ => 0))) C0 hR (by decide) (hts _ (hm_tb_of (List.mem_of_getElem? (i := 60) (by decide +kernel)) rfl)) hc.1 rfl (by show _ * 4 ≤ _; omega) hn0 hs0 hcs.1 hcs.2 (hK.2 0 _ rfl).2 rfl hd (fun H1 hR1 => k H1 locs la hR1 hL hz hf)
    next => cases h
  · obtain rfl : n = 2 := hm_lnE hn rfl (by decide)
    split at h
    next hc =>
      cases h
      exact hm_newa (at_ := .long) (t := 1) (x := (_, .inr (.inl (fun _ => 0)))) C0 hR (by decide) (hts _ (hm_tb_of (List.mem_of_getElem? (i := 61) (by decide +kernel)) rfl)) hc.1 rfl (by show _ * 8 ≤ _; omega) hn0 hs0 hcs.1 hcs.2 (hK.2 1 _ rfl).2 rfl hd (fun H1 hR1 => k H1 locs la hR1 hL hz hf)
    next => cases h
  · obtain rfl : n = 2 := hm_lnE hn rfl (by decide)
    split at h
    next hc =>
      cases h
      exact hm_newa (at_ := .boolean) (t := 2) (x := (_, .inl (fun _ => 0))) C0 hR (by decide) (hts _ (hm_tb_of (List.mem_of_getElem? (i := 813) (by decide +kernel)) rfl)) hc.1 rfl (by show _ * 1 ≤ _; omega) hn0 hs0 hcs.1 hcs.2 (hK.2 2 _ rfl).2 rfl hd (fun H1 hR1 => k H1 locs la hR1 hL hz hf)
    next => cases h
  · obtain rfl : n = 3 := hm_lnE hn rfl (by decide)
    rename_i ix j r
    split at h
    next ci w hlf =>
      split at h
      next hc =>
        cases h
        obtain ⟨hci, hj, hjn⟩ := hc
        have hlink := hm_nlk C0 hlf
        have hc1 : hp.2.1 + 1 - n0 ≤ R.cells := hcs.1
        have hc2 : hp.2.2 + j.toNatClampNeg - s0 ≤ R.slots := hcs.2
        have fin : ∀ (t : Nat) (C : String), t < 7 → (if ci = 2 then 5 else 6) = t → hm_nname ci = C → va_AO C s → va_RA s (G.2.2.2 t) (.object C) → W p l e R s m args below meth c H locs (hp.2.1 - n0) (hp.2.2 - s0) Q (F0 m pc la ((.int j :: r).map (hm_v G))) := by
          intro t C ht e1 e2 hao hra
          subst e1
          rw [e2] at hlink
          refine W.anew hx hb hown hlink (va_AO.use hao) rfl hd rfl hj (by omega) (by omega) (by omega) (fun cA kA comp f1 f2 f3 f4 => ?_)
          obtain ⟨kA2, comp2, g1, g2, g3, g4⟩ := hra
          have ecA : cA = G.2.2.2 (if ci = 2 then 5 else 6) := Option.some.inj (f1.symm.trans g4)
          subst ecA
          generalize hH1 : H.push ({ cls := G.2.2.2 (if ci = 2 then 5 else 6), slots := Array.replicate j.toNatClampNeg .null, vm := .none } : Cell) = H1
          have z1 : H1.size = H.size + 1 := by rw [← hH1, Array.size_push]
          have e3 : H1[H.size]? = some (arrV (G.2.2.2 (if ci = 2 then 5 else 6)) j.toNatClampNeg (fun _ => .null)) := by rw [← hH1, Array.getElem?_push_size, ← arrV_new]
          have o1 : ∀ z : Nat, z < H.size → H1[z]? = H[z]? := fun z hq => by rw [← hH1, Array.getElem?_push, if_neg (Nat.ne_of_lt hq)]
          have kk := k H1 locs la (hm_pushA (nn := j.toNatClampNeg) (x := (j.toNatClampNeg, .inr (.inr (.inr (.inr (fun _ => none)))))) hR ht e3 z1 o1) hL hz hf
          refine W.cs (cells' := hp.2.1 + 1 - n0) (slots' := hp.2.2 + j.toNatClampNeg - s0) (by omega) (by omega) ?_
          have e4 := hm_newref (G := G) hR
          show W p l e R s m args below meth c H1 locs _ _ Q (F0 m (pc + 3) la (.ref H.size :: List.map (hm_v G) r))
          rw [← e4]
          exact kk
        rcases hci with rfl | rfl
        · exact fin 5 "HourPromised$Law" (by decide) rfl rfl hNW.2.1 (hK.2 5 _ rfl).2
        · exact fin 6 "java/lang/Object" (by decide) rfl rfl hNW.2.2.1 (hK.2 6 _ rfl).2
      next => cases h
    next => cases h
  · obtain rfl : n = 4 := hm_lnE hn rfl (by decide)
    rename_i ix dm k1 j r
    split at h
    next ci w hlf =>
      split at h
      next hc =>
        obtain ⟨rfl, ⟨hj, hjn⟩, hk1, hkn⟩ := hc
        have hlink := hm_nlk C0 hlf
        have fin : ∀ (t : Nat) (ty : FieldType) (z : vp_A), t < 7 → t + 3 < 7 → hm_nname ci = "[" ++ (FieldType.array ty).toString → (Cond.arrayOver (.array ty)).before args s = true → (Cond.arrayClass ty).before args s = true → s.vm.findClass ("[" ++ (FieldType.array ty).toString) = some (G.2.2.2 (t + 3)) → s.vm.findClass (FieldType.array ty).toString = some (G.2.2.2 t) → k1.toNatClampNeg * componentBytes ty ≤ 536870912 → fits ty (defaultValue ty) = true → (defaultValue ty).isDefault = true → (∀ cc : ClassId, Jvm.Free.Multi.innerC cc k1.toNatClampNeg (defaultValue ty) = vp_cell cc (hm_a G z)) → σ = (pc + 4, ls, .ref (hp.2.1 + 4) :: r, hm_grid hp t j.toNatClampNeg k1.toNatClampNeg z) → W p l e R s m args below meth c H locs (hp.2.1 - n0) (hp.2.2 - s0) Q (F0 m pc la ((.int k1 :: .int j :: r).map (hm_v G))) := by
          intro t ty z ht ht3 hnn hov hac hfA hfI hby hdf hdd hin hσ
          subst hσ
          rw [hnn] at hlink
          exact hm_mna C0 hR ht ht3 hlink hov hac hfA hfI hj hk1 hjn hkn hby hdf hdd hin hn0 hs0 hcs.1 hcs.2 hd (fun H1 hR1 => k H1 locs la hR1 hL hz hf)
        split at h
        next hci =>
          subst hci
          cases h
          exact fin 0 .int (k1.toNatClampNeg, .inl (fun _ => 0)) (by decide) (by decide) rfl (va_aoa hNW.2.2.2.1) (hts _ (hm_tb_of (List.mem_of_getElem? (i := 60) (by decide +kernel)) rfl)) (hK.2 3 _ rfl).2 (hK.2 0 _ rfl).2 (by show _ * 4 ≤ _; omega) rfl rfl (fun cc => by rw [Jvm.Free.Multi.innerC, arrV_new]; rfl) rfl
        next =>
          split at h
          next hci =>
            subst hci
            cases h
            exact fin 1 .long (k1.toNatClampNeg, .inr (.inl (fun _ => 0))) (by decide) (by decide) rfl (va_aoa hNW.2.2.2.2.1) (hts _ (hm_tb_of (List.mem_of_getElem? (i := 61) (by decide +kernel)) rfl)) (hK.2 4 _ rfl).2 (hK.2 1 _ rfl).2 (by show _ * 8 ≤ _; omega) rfl rfl (fun cc => by rw [Jvm.Free.Multi.innerC, arrV_new]; rfl) rfl
          next => cases h
      next => cases h
    next => cases h
  · cases h
theorem hm_o8 (C0 : hm_Cx p s m args meth c q) (hd : decode q.2.1 pc = .ok (i, n)) (hn : hm_ln i = n ∨ hm_ln i = 0) (hfr : 1 ≤ R.frames) (hlo : 20 ≤ R.locals) (h : hm_s8 q.2.2.2.2.1 i pc ls st hp = some σ) (k : hm_K p l e R s m args below meth c Q G n0 s0 σ) : hm_K p l e R s m args below meth c Q G n0 s0 (pc, ls, st, hp) := by
  intro H locs la hR hL hz hf
  obtain ⟨hx, hb, hml, hr, hlk, hown, hnm, hw0, hts, hNW⟩ := id C0
  unfold hm_s8 at h
  split at h
  · obtain rfl : n = 3 := hm_lnE hn rfl (by decide)
    rename_i ix a r
    split at h
    next cc nst w hlf =>
      split at h
      next hc =>
        obtain ⟨⟨rfl, rfl⟩, hlen⟩ := hc
        cases h
        have h3 := List.all_eq_true.mp hm_cok _ (hm_lk hlf)
        unfold hm_cchk at h3
        dsimp only at h3
        rw [hw0] at h3
        have hlink := hts _ (hm_tb_of (hm_at_mem h3) rfl)
        have hsum : ((r.map (hm_v G)).map fun v => v.category).sum ≤ 8 := hm_sum r hlen
        exact W.objInit hx hb hown hlink (hts (.instanceMethod objectInit) (hm_tb_of (List.mem_of_getElem? (i := 26) (by decide +kernel)) rfl)) (hts _ (hm_tb_of hm_cw1 rfl)) rfl hz rfl hd hfr (by show 2 * 0 + _ + 12 ≤ _; omega) (k H locs la hR hL hz hf)
      next => cases h
    next => cases h
  · cases h
end HMN
