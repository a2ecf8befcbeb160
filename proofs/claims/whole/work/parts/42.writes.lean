theorem hm_fv_ok {G : hm_E} {ty : FieldType} {v : Value} (h : hm_fv ty v = true) : narrow ty (hm_v G v) = hm_v G v ∧ fits ty (hm_v G v) = true := by
  unfold hm_fv at h
  split at h
  · exact ⟨rfl, rfl⟩
  · rename_i x
    have h2 : x = 0 ∨ x = 1 := of_decide_eq_true h
    rcases h2 with rfl | rfl
    · exact ⟨show narrow .boolean (.int 0) = .int 0 by decide +kernel, show fits .boolean (.int 0) = true by decide +kernel⟩
    · exact ⟨show narrow .boolean (.int 1) = .int 1 by decide +kernel, show fits .boolean (.int 1) = true by decide +kernel⟩
  · exact ⟨rfl, rfl⟩
  · exact ⟨rfl, rfl⟩
  · exact ⟨rfl, rfl⟩
  · exact ⟨rfl, rfl⟩
  · exact ⟨rfl, rfl⟩
  · cases h
theorem hm_mset (G : hm_E) (fs : List Value) (k : Nat) (v : Value) : (fs.set k v).map (hm_v G) = (fs.map (hm_v G)).set k (hm_v G v) := by
  rw [List.map_set]
section HMW
variable {p : Program} {l : Launch} {e : Env} {R : Room} {s : State} {m : MethodId} {args : Array Value} {below : List Frame} {meth : Method} {c : Code} {Q : State → Prop}
variable {pc n n0 s0 : Nat} {i : Instr} {ls st : List Value} {hp : hm_H} {σ : hm_S} {G : hm_E} {q : hm_Q}
/-- a field of an object that is there is written -/
theorem hm_putf (C0 : hm_Cx p s m args meth c q) {H : Heap} {locs : List Loc} {cells slots a ix ci k md w : Nat} {la : Array Slot} {fs rest : List Value} {v : Value} (hK : va_K G.2.2.1 hm_cls (hm_tys G) s) (hlf : hm_ftab.lookup (q.2.2.2.2.1, ix) = some (ci, k, md, w)) (hat : va_at G.2.2.1 hm_cls (a, .inr (ci, fs)) H) (hkl : k < fs.length) (hv : narrow (hm_fty ci k) v = v ∧ fits (hm_fty ci k) v = true) (hfin : hm_fin q ci k = true) (hd : decode q.2.1 pc = .ok (.putfield ix, 3))
    (kk : ∀ (H1 : Heap) (i1 : Nat), va_at G.2.2.1 hm_cls (a, .inr (ci, fs.set k v)) H1 → H1.size = H.size → (∀ z : Nat, z ≠ a → H1[z]? = H[z]?) → W p l e R s m args below meth c H1 (locs ++ [⟨a, i1⟩]) cells slots Q (F0 m (pc + 3) la rest)) : W p l e R s m args below meth c H locs cells slots Q (F0 m pc la (v :: .ref a :: rest)) := by
  obtain ⟨hx, hb, hml, hr, hlk, hown, hnm, hw0, hts, hNW⟩ := id C0
  obtain ⟨r, hrc, hkN, hlink⟩ := hm_fld C0 hlf
  have hty := hm_tyok ci r hrc
  have hap := va_apart (own := q.1.cls) hts (hm_kin hrc) (hm_fty ci) hty (hm_nmok ci r hrc) hK (show hm_cls[ci]? = some (r.1, r.2.1, r.2.2) from hrc)
  obtain ⟨r2, hr2, cell, q1, q2, q3, q4⟩ := id hat
  cases hrc.symm.trans hr2
  obtain ⟨hS, hfc, kC, hkC, hkind⟩ := hK.1 ci _ hrc
  obtain ⟨cf, kf, fi, f, hi, hsl⟩ := hS k hkN
  have hlay := hts _ (hm_kin hrc _ (u_in_lay hkN))
  have hst := (u_facts hfc hkC (u_lays hts (hm_kin hrc) hkN) hi).1
  have fin : ∀ H' : Heap, H'[a]? = some (cell.setSlot (G.2.2.1.2 ci k) v) → va_at G.2.2.1 hm_cls (a, .inr (ci, fs.set k v)) H' := fun H' e1 =>
    ⟨_, hrc, t_OB.to (V := updV (vp_V fs) k v) ⟨_, e1, q2, q3, t_set q4 hap hkN v⟩ (fun j _ => vp_updV_set hkl v j)⟩
  have hlt : f.slot < cell.slots.size := by rw [hsl]; exact k2_hasslot (q4 k hkN)
  unfold hm_fin at hfin
  rw [hrc] at hfin
  simp only [Bool.or_eq_true, Bool.not_eq_true', Bool.and_eq_true, decide_eq_true_eq] at hfin
  unfold u_lay at hlay
  cases hff : (r.2.1 k).2.2.2 with
  | false =>
    rw [if_neg (by rw [hff]; decide)] at hlay
    have h6 := u_store hfc hkC hkind hlay hi (hty k hkN) hv.1 hv.2
    rcases hlink with hlink | hlink | ⟨hlink, e1, e2, e3⟩
    · refine W.putK hx hb (f := f) ⟨hown, hlink, ⟨_, _, _, hi⟩, hst⟩ (by rw [q2]; exact h6) q1 q3 hlt rfl rfl hd fun H' e1 e2 e3 => ?_
      rw [hsl] at e1
      exact kk H' _ (fin H' e1) e2 e3
    · refine va_WputK hx hb hown hlink hi hst (by rw [q2]; exact h6) q1 q3 hlt rfl rfl hd fun H' e1 e2 e3 => ?_
      rw [hsl] at e1
      exact kk H' _ (fin H' e1) e2 e3
    · refine W.putK hx hb (f := f) ⟨hown, hlink, ⟨_, _, _, hm_asame C0 e1 e2 e3 _ hi⟩, hst⟩ (by rw [q2]; exact h6) q1 q3 hlt rfl rfl hd fun H' e1 e2 e3 => ?_
      rw [hsl] at e1
      exact kk H' _ (fin H' e1) e2 e3
  | true =>
    rw [if_pos hff] at hlay
    have hfin2 : q.1.name = "<init>" ∧ (r.2.1 k).1 = q.1.cls := by
      rcases hfin with h | h
      · rw [hff] at h; cases h
      · exact h
    have hcf : m.cls = cf := by
      obtain ⟨_, _, c', _, _, _, -, -, hf', -, -, -, hown2, -⟩ := Cond.laysFinal_spec hlay
      have e1 : c' = cf := by have := hi.symm.trans hf'; simp at this; exact this.1.symm
      rw [hfin2.2] at hown2
      rw [← e1]; exact Option.some.inj (hown.symm.trans hown2)
    have h6 := u_fits hfc hkC hkind (Or.inr hlay) hi (hty k hkN) hv.1 hv.2
    have hin2 : meth.name = "<init>" := hnm hfin2.1
    rcases hlink with hlink | hlink | ⟨hlink, e1, e2, e3⟩
    · refine W.putFinK hx hb hown hlink hi hst hcf hin2 (by rw [q2]; exact h6) q1 q3 hlt rfl rfl hd fun H' e1 e2 e3 => ?_
      rw [hsl] at e1
      exact kk H' _ (fin H' e1) e2 e3
    · refine va_Wputf hx hb hown hlink hi hst (Or.inr ⟨hcf, hin2⟩) q1 (by rw [q3]; exact fun z => by cases z) hlt h6.1 (by rw [q2, q3]; exact h6.2) rfl rfl hd ?_
      have ha : a < H.size := (Array.getElem?_eq_some_iff.mp q1).1
      refine kk _ _ (fin _ (by rw [← hsl]; simp [ha])) (by simp) (fun z hz => ?_)
      rw [Array.getElem?_setIfInBounds_ne (Ne.symm hz)]
    · refine W.putFinK hx hb hown hlink (hm_asame C0 e1 e2 e3 _ hi) hst hcf hin2 (by rw [q2]; exact h6) q1 q3 hlt rfl rfl hd fun H' e1 e2 e3 => ?_
      rw [hsl] at e1
      exact kk H' _ (fin H' e1) e2 e3
theorem hm_locs {locs : List Loc} {a j : Nat} (hf : ∀ q ∈ locs, G.1 ≤ q.base) (ha : G.1 ≤ a) : ∀ q ∈ locs ++ [⟨a, j⟩], G.1 ≤ q.base := t_lc (free := fun x => G.1 ≤ x) hf ha
theorem hm_rho_ge {i : Nat} (h : 4 ≤ i) : G.1 ≤ hm_rho G i := by
  rw [hm_rho_new h]
  exact Nat.le_add_right _ _
set_option maxHeartbeats 2000000 in
theorem hm_o6 (C0 : hm_Cx p s m args meth c q) (hd : decode q.2.1 pc = .ok (i, n)) (hn : hm_ln i = n ∨ hm_ln i = 0) (h : hm_s6 q i pc ls st hp = some σ) (k : hm_K p l e R s m args below meth c Q G n0 s0 σ) : hm_K p l e R s m args below meth c Q G n0 s0 (pc, ls, st, hp) := by
  intro H locs la hR hL hz hf
  obtain ⟨hx, hb, hml, hr, hlk, hown, hnm, hw0, hts, hNW⟩ := id C0
  obtain ⟨hK, hsz, hcl, hst⟩ := id hR
  unfold hm_s6 at h
  split at h
  · obtain rfl : n = 3 := hm_lnE hn rfl (by decide)
    rename_i ix v a r
    split at h
    next ci kf md w cj fs hlf hha =>
      split at h
      next hc =>
        obtain ⟨⟨hcc, hkl⟩, hfv, hfin⟩ := hc
        subst hcc
        cases h
        obtain ⟨ha4, hat⟩ := hcl a _ hha
        refine hm_putf C0 hK hlf hat (by rw [List.length_map]; exact hkl) (hm_fv_ok hfv) hfin hd (fun H1 i1 hat1 z1 o1 => ?_)
        rw [← hm_mset] at hat1
        exact k H1 _ la (hR.set ha4 z1 o1 ⟨ha4, hat1⟩) hL hz (hm_locs hf (hm_rho_ge ha4))
      next => cases h
    next => cases h
  · obtain rfl : n = 1 := hm_lnE hn rfl (by decide)
    rename_i x j a r
    split at h
    next t nn f hha =>
      split at h
      next hc =>
        obtain ⟨rfl, hc⟩ := hc
        cases h
        rcases hcl a _ hha with ⟨h1, ha4, h3⟩ | ⟨h1, h2⟩ | ⟨h1, h2⟩
        · refine W.iast hx hb h3 ((hK.2 0 _ rfl).1 nn (fun z => .int (f z))) (fun z => by cases z) (by show ¬ (j < 0 ∨ (arrV _ nn _).slots.size ≤ _); rw [arrV_size]; exact hc) rfl rfl hd fun H1 e1 z1 o1 => ?_
          refine k H1 _ la (hR.set ha4 z1 o1 (Or.inl ⟨h1, ha4, ?_⟩)) hL hz (hm_locs hf (hm_rho_ge ha4))
          rw [e1]
          show some ((arrV (G.2.2.2 0) nn (fun z => .int (f z))).setSlot j.toNatClampNeg (.int x)) = some (arrV (G.2.2.2 0) nn (fun z => .int (upd f j.toNatClampNeg x z)))
          rw [arrV_store]
          congr 2
          funext z
          by_cases hz : z = j.toNatClampNeg
          · subst hz
            simp [updV, upd]
          · simp [updV, upd, hz]
        · exact absurd h1 (by decide)
        · exact absurd h1 (by decide)
      next => cases h
    next => cases h
  · obtain rfl : n = 1 := hm_lnE hn rfl (by decide)
    rename_i x j a r
    split at h
    next t nn f hha =>
      split at h
      next hc =>
        obtain ⟨⟨rfl, hx01⟩, hc⟩ := hc
        cases h
        rcases hcl a _ hha with ⟨h1, ha4, h3⟩ | ⟨h1, h2⟩ | ⟨h1, h2⟩
        · refine W.zast hx hb h3 ((hK.2 2 _ rfl).1 nn (fun z => .int (f z))) (fun z => by cases z) (by show ¬ (j < 0 ∨ (arrV _ nn _).slots.size ≤ _); rw [arrV_size]; exact hc) rfl rfl hd fun H1 e1 z1 o1 => ?_
          refine k H1 _ la (hR.set ha4 z1 o1 (Or.inl ⟨h1, ha4, ?_⟩)) hL hz (hm_locs hf (hm_rho_ge ha4))
          rw [e1]
          have hnar : narrow .boolean (.int x) = .int x := by
            rcases hx01 with rfl | rfl
            · decide +kernel
            · decide +kernel
          rw [hnar]
          show some ((arrV (G.2.2.2 2) nn (fun z => .int (f z))).setSlot j.toNatClampNeg (.int x)) = some (arrV (G.2.2.2 2) nn (fun z => .int (upd f j.toNatClampNeg x z)))
          rw [arrV_store]
          congr 2
          funext z
          by_cases hz : z = j.toNatClampNeg
          · subst hz
            simp [updV, upd]
          · simp [updV, upd, hz]
        · exact absurd h1 (by decide)
        · exact absurd h1 (by decide)
      next => cases h
    next => cases h
  · obtain rfl : n = 1 := hm_lnE hn rfl (by decide)
    rename_i x j a r
    split at h
    next t nn f hha =>
      split at h
      next hc =>
        obtain ⟨rfl, hc⟩ := hc
        cases h
        rcases hcl a _ hha with ⟨h1, ha4, h3⟩ | ⟨h1, h2⟩ | ⟨h1, h2⟩
        · refine W.last hx hb h3 ((hK.2 1 _ rfl).1 nn (fun z => .long (f z))) (fun z => by cases z) (by show ¬ (j < 0 ∨ (arrV _ nn _).slots.size ≤ _); rw [arrV_size]; exact hc) rfl rfl hd fun H1 e1 z1 o1 => ?_
          refine k H1 _ la (hR.set ha4 z1 o1 (Or.inl ⟨h1, ha4, ?_⟩)) hL hz (hm_locs hf (hm_rho_ge ha4))
          rw [e1]
          show some ((arrV (G.2.2.2 1) nn (fun z => .long (f z))).setSlot j.toNatClampNeg (.long x)) = some (arrV (G.2.2.2 1) nn (fun z => .long (vp_updL f j.toNatClampNeg x z)))
          rw [arrV_store]
          congr 2
          funext z
          by_cases hz : z = j.toNatClampNeg
          · subst hz
            simp [updV, vp_updL]
          · simp [updV, vp_updL, hz]
        · exact absurd h1 (by decide)
        · exact absurd h1 (by decide)
      next => cases h
    next => cases h
  · obtain rfl : n = 1 := hm_lnE hn rfl (by decide)
    rename_i b j a r
    split at h
    next t nn f cj fs hha hhb =>
      split at h
      next hc =>
        obtain ⟨ht, hc⟩ := hc
        cases h
        have hlt : j.toNatClampNeg < nn := Nat.not_le.mp fun z => hc (Or.inr z)
        have h0 : ¬ j < 0 := fun z => hc (Or.inl z)
        obtain ⟨hb4, hbt⟩ := hcl b _ hhb
        obtain ⟨rb, hrb, cellV, g1, g2, g3, -⟩ := id hbt
        have hcls := (hK.1 cj rb hrb).2
        obtain ⟨kC, hkC, -⟩ := hcls.2
        have fin : t < 7 → t ≠ 100 → t ≠ 101 → ∀ (C : String), (hm_tys G)[t]? = some (G.2.2.2 t, .object C) → (∀ comp : ClassId, s.vm.findClass C = some comp → s.vm.assignable cellV.cls comp = true ∧ ∃ kcomp, s.vm.classes[comp]? = some kcomp) → W p l e R s m args below meth c H locs (hp.2.1 - n0) (hp.2.2 - s0) Q (F0 m pc la ((.ref b :: .int j :: .ref a :: r).map (hm_v G))) := by
          intro t7 t100 t101 C hat hass
          rcases hcl a _ hha with ⟨h1, ha4, h3⟩ | ⟨h1, h2⟩ | ⟨h1, h2⟩
          · obtain ⟨kA, comp, k1, k2, k3, -⟩ := (hK.2 t _ hat).2
            obtain ⟨as, kcomp, hkcomp⟩ := hass comp k3
            refine W.aast hx hb h3 (fun z h => by cases h) (fun h => by cases h) k1 k2 rfl hkcomp ⟨h0, by show _ < (arrV _ nn _).slots.size; rw [arrV_size]; exact hlt⟩ g1 (fun z h => by rw [g3] at h; cases h) (by rw [g2]; exact hkC) as rfl rfl hd fun H1 e1 z1 o1 => ?_
            refine k H1 _ la (hR.set ha4 z1 o1 (Or.inl ⟨h1, ha4, ?_⟩)) hL hz (hm_locs hf (hm_rho_ge ha4))
            rw [e1]
            show some ((arrV (G.2.2.2 t) nn (fun z => va_rf ((f z).map (hm_rho G)))).setSlot j.toNatClampNeg (.ref (hm_rho G b))) = some (arrV (G.2.2.2 t) nn (fun z => va_rf ((va_up f j.toNatClampNeg (some b) z).map (hm_rho G))))
            rw [arrV_store]
            congr 2
            funext z
            by_cases hz : z = j.toNatClampNeg
            · subst hz
              simp [updV, va_up, va_rf]
            · simp [updV, va_up, hz]
          · exact absurd h1 t100
          · exact absurd h1 t101
        rcases ht with ⟨rfl, rfl⟩ | ⟨rfl, hcj⟩
        · cases hrb
          refine fin (by decide) (by decide) (by decide) "HourPromised$Law" rfl (fun comp hcomp => ?_)
          have e1 : comp = G.2.2.1.1 2 := Option.some.inj (hcomp.symm.trans hcls.1)
          subst e1
          exact ⟨by rw [g2]; exact va_assign hcls, kC, hkC⟩
        · refine fin (by decide) (by decide) (by decide) "java/lang/Object" rfl (fun comp hcomp => ?_)
          have hcast : va_Nw (.castable rb.1 "java/lang/Object") s := by
            have hk : cj < 10 := hcj
            have hm : Cond.castable rb.1 "java/lang/Object" ∈ tables_1 := hm_lt10 (P := fun k => ∀ r, hm_cls[k]? = some r → Cond.castable r.1 "java/lang/Object" ∈ tables_1) ⟨fun r h => by cases h; exact List.mem_of_getElem? (i := 1063) (by decide +kernel), fun r h => by cases h; exact List.mem_of_getElem? (i := 1069) (by decide +kernel), fun r h => by cases h; exact List.mem_of_getElem? (i := 1058) (by decide +kernel), fun r h => by cases h; exact List.mem_of_getElem? (i := 1066) (by decide +kernel), fun r h => by cases h; exact List.mem_of_getElem? (i := 1064) (by decide +kernel), fun r h => by cases h; exact List.mem_of_getElem? (i := 1070) (by decide +kernel), fun r h => by cases h; exact List.mem_of_getElem? (i := 1065) (by decide +kernel), fun r h => by cases h; exact List.mem_of_getElem? (i := 1062) (by decide +kernel), fun r h => by cases h; exact List.mem_of_getElem? (i := 1068) (by decide +kernel), fun r h => by cases h; exact List.mem_of_getElem? (i := 1067) (by decide +kernel)⟩ cj hk rb hrb
            exact hNW.1 _ hm rfl
          obtain ⟨c0, t0, f1, f2, f3⟩ := Cond.castable_spec (va_Nw.use (A := args) rfl hcast)
          have e1 : comp = t0 := Option.some.inj (hcomp.symm.trans f2)
          subst e1
          have e2 : c0 = G.2.2.1.1 cj := Option.some.inj (f1.symm.trans hcls.1)
          subst e2
          obtain ⟨kA, comp2, k1, k2, k3, -⟩ := (hK.2 6 _ rfl).2
          obtain ⟨kE, hkE, -⟩ := Vm.findClass_spec hcomp
          exact ⟨by rw [g2]; exact f3, kE, hkE⟩
      next => cases h
    next => cases h
  · cases h
end HMW
