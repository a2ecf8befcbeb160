section HMR
variable {p : Program} {l : Launch} {e : Env} {R : Room} {s : State} {m : MethodId} {args : Array Value} {below : List Frame} {meth : Method} {c : Code} {Q : State → Prop}
variable {pc n n0 s0 : Nat} {i : Instr} {ls st : List Value} {hp : hm_H} {σ : hm_S} {G : hm_E} {q : hm_Q}
set_option maxHeartbeats 2000000 in
theorem hm_o5 (C0 : hm_Cx p s m args meth c q) (hd : decode q.2.1 pc = .ok (i, n)) (hn : hm_ln i = n ∨ hm_ln i = 0) (h : hm_s5 q.2.2.2.2.1 i pc ls st hp = some σ) (k : hm_K p l e R s m args below meth c Q G n0 s0 σ) : hm_K p l e R s m args below meth c Q G n0 s0 (pc, ls, st, hp) := by
  intro H locs la hR hL hz hf
  obtain ⟨hx, hb, hml, hr, hlk, hown, hnm, hw0, hts, hNW⟩ := id C0
  obtain ⟨hK, hsz, hcl, hst⟩ := id hR
  unfold hm_s5 at h
  split at h
  · obtain rfl : n = 3 := hm_lnE hn rfl (by decide)
    rename_i ix a r
    split at h
    next ci kf md w cj fs hlf hha =>
      split at h
      next hc =>
        subst hc
        obtain ⟨v, hv, h2⟩ := Option.map_eq_some_iff.mp h
        cases h2
        obtain ⟨-, hat⟩ := hcl a _ hha
        obtain ⟨r, hrc, hkN, hlink⟩ := hm_fld C0 hlf
        rcases hlink with hlink | hlink | ⟨hlink, e1, e2, e3⟩
        · exact va_get (C := r.1) (T := r.2.1) (N := r.2.2) hx hb hts (hm_kin hrc) hown hK (hm_one hat) 0 rfl hrc kf hkN hlink (fun _ h9 => h9) (hm_rmap fs kf hv) hd (k H locs la hR hL hz hf)
        · exact va_getN (C := r.1) (T := r.2.1) (N := r.2.2) hx hb hts (hm_kin hrc) hown hK (hm_one hat) 0 rfl hrc kf hkN hlink (fun _ h9 => h9) (hm_rmap fs kf hv) hd (k H locs la hR hL hz hf)
        · exact va_get (C := r.1) (T := r.2.1) (N := r.2.2) hx hb hts (hm_kin hrc) hown hK (hm_one hat) 0 rfl hrc kf hkN hlink (hm_asame C0 e1 e2 e3) (hm_rmap fs kf hv) hd (k H locs la hR hL hz hf)
      next => cases h
    next => cases h
  · obtain rfl : n = 1 := hm_lnE hn rfl (by decide)
    rename_i j a r
    split at h
    next t nn f hha =>
      split at h
      next hc =>
        cases h
        rcases hc.1 with ht | ht
        · subst ht
          rcases hcl a _ hha with ⟨h1, h2, h3⟩ | ⟨h1, h2⟩ | ⟨h1, h2⟩
          · exact va_iald (f := f) (n := nn) hx hb hK (hm_one (x := (hm_rho G a, .inl (G.2.2.2 0, nn, .inl f))) h3) 0 0 rfl rfl hc.2 hd (k H locs la hR hL hz hf)
          · exact absurd h1 (by decide)
          · exact absurd h1 (by decide)
        · subst ht
          rcases hcl a _ hha with ⟨h1, h2⟩ | ⟨h1, h2, f2, h3, cell, g1, g2, g3, g4, g5, g6, g7⟩ | ⟨h1, h2⟩
          · exact absurd h1 (by decide)
          · cases h3
            have hlt : j.toNatClampNeg < nn := Nat.not_le.mp fun z => hc.2 (Or.inr z)
            exact W.iald hx hb g1 g2 g3 (fun z => hc.2 (z.elim Or.inl (fun y => Or.inr (Nat.le_trans g4 y)))) (g6 _ hlt) rfl rfl hd (k H locs la hR hL hz hf)
          · exact absurd h1 (by decide)
      next => cases h
    next => cases h
  · obtain rfl : n = 1 := hm_lnE hn rfl (by decide)
    rename_i j a r
    split at h
    next t nn f hha =>
      split at h
      next hc =>
        cases h
        obtain ⟨rfl, hc⟩ := hc
        rcases hcl a _ hha with ⟨h1, h2, h3⟩ | ⟨h1, h2⟩ | ⟨h1, h2⟩
        · skip
          exact va_zald (f := f) (n := nn) hx hb hK (hm_one (x := (hm_rho G a, .inl (G.2.2.2 2, nn, .inl f))) h3) 0 2 rfl rfl hc hd (k H locs la hR hL hz hf)
        · exact absurd h1 (by decide)
        · exact absurd h1 (by decide)
      next => cases h
    next => cases h
  · obtain rfl : n = 1 := hm_lnE hn rfl (by decide)
    rename_i j a r
    split at h
    next t nn f hha =>
      split at h
      next hc =>
        cases h
        obtain ⟨rfl, hc⟩ := hc
        rcases hcl a _ hha with ⟨h1, h2, h3⟩ | ⟨h1, h2⟩ | ⟨h1, h2⟩
        · skip
          exact va_lald (f := f) (n := nn) hx hb hK (hm_one (x := (hm_rho G a, .inl (G.2.2.2 1, nn, .inr (.inl f)))) h3) 0 1 rfl rfl hc hd (k H locs la hR hL hz hf)
        · exact absurd h1 (by decide)
        · exact absurd h1 (by decide)
      next => cases h
    next => cases h
  · obtain rfl : n = 1 := hm_lnE hn rfl (by decide)
    rename_i j a r
    split at h
    next t nn f hha =>
      split at h
      next hc =>
        cases h
        have hlt : j.toNatClampNeg < nn := Nat.not_le.mp fun z => hc.2 (Or.inr z)
        have kk := k H locs la hR hL hz hf
        have ha : ∀ (ty : FieldType), ty.isReference = true → t < 7 → t ≠ 100 → t ≠ 101 → (hm_tys G)[t]? = some (G.2.2.2 t, ty) → W p l e R s m args below meth c H locs (hp.2.1 - n0) (hp.2.2 - s0) Q (F0 m pc la ((.int j :: .ref a :: r).map (hm_v G))) := by
          intro ty hty ht7 ht0 ht1 hat
          rcases hcl a _ hha with ⟨h1, h2, h3⟩ | ⟨h1, h2⟩ | ⟨h1, h2⟩
          · refine W.aald (v := va_rf ((f j.toNatClampNeg).map (hm_rho G))) (ty := ty) hx hb h3 ((hK.2 t _ hat).1 nn (fun z => va_rf ((f z).map (hm_rho G)))) hty (fun z => by cases z) (by show ¬ (j < 0 ∨ (arrV _ nn _).slots.size ≤ _); rw [arrV_size]; exact hc.2) (by show (arrV _ nn _).slots[_]? = _; rw [arrV_read _ _ hlt]) rfl rfl hd ?_
            rw [hm_rf]
            exact kk
          · exact absurd h1 ht0
          · exact absurd h1 ht1
        rcases hc.1 with rfl | rfl | rfl | rfl
        · exact ha (.array .int) rfl (by decide) (by decide) (by decide) rfl
        · exact ha (.array .long) rfl (by decide) (by decide) (by decide) rfl
        · exact ha (.object "HourPromised$Law") rfl (by decide) (by decide) (by decide) rfl
        · exact ha (.object "java/lang/Object") rfl (by decide) (by decide) (by decide) rfl
      next => cases h
    next => cases h
  · obtain rfl : n = 1 := hm_lnE hn rfl (by decide)
    rename_i a r
    split at h
    next t nn y hha =>
      cases h
      rcases hcl a _ hha with ⟨h1, h2, h3⟩ | ⟨h1, h2, f2, h3, cell, g1, g2, g3, g4, g5, g6, g7⟩ | ⟨h1, h2, h3, cell, g1, g2, g3, g4, g5, g6, g7⟩
      · obtain ⟨ty, hty⟩ := hm_ty_at (G := G) h1
        exact va_alen (x := hm_a G (nn, y)) hx hb hK (hm_one (x := (hm_rho G a, .inl (G.2.2.2 t, hm_a G (nn, y)))) h3) 0 t rfl hty (by rw [hm_a_fst]) hd (k H locs la hR hL hz hf)
      · exact W.alen (n := Int32.ofNat nn) hx hb g1 g2 g5 rfl rfl hd (k H locs la hR hL hz hf)
      · have hnn : nn = 0 := h3
        subst hnn
        exact W.alen (n := Int32.ofNat 0) hx hb g1 g2 g5 rfl rfl hd (k H locs la hR hL hz hf)
    next => cases h
  · obtain rfl : n = 3 := hm_lnE hn rfl (by decide)
    obtain ⟨⟨j, w⟩, h1, h2⟩ := Option.map_eq_some_iff.mp h
    cases h2
    have h3 := List.all_eq_true.mp hm_sok _ (hm_lk h1)
    unfold hm_schk at h3
    dsimp only at h3
    rw [hw0] at h3
    simp only [Bool.and_eq_true, decide_eq_true_eq] at h3
    have hlink := hts _ (hm_tb_of (hm_at_mem h3.2) rfl)
    obtain ⟨cf, kf, fi, f, a, cell, g1, g2, g3, g4, g5, g6, g7, g8⟩ := hst j h3.1.1 h3.1.2
    refine W.gets hx hb hown hlink g1 g2 g3 g4 g5 (fun z => by rw [z] at g6; cases g6) g7 rfl hd ?_
    have kk := k H locs la hR hL hz hf
    have e1 : hm_v G (.ref j) = .ref (G.2.1 j) := by
      show Value.ref (hm_rho G j) = _
      rw [hm_rho_old h3.1.2]
    rw [← e1]
    exact kk
  · obtain rfl : n = 3 := hm_lnE hn rfl (by decide)
    cases h
    exact lv_castN hx hb hd (k H locs la hR hL hz hf)
  · obtain rfl : n = 3 := hm_lnE hn rfl (by decide)
    rename_i ix a r
    split at h
    next ci w cj fs hlf hha =>
      split at h
      next hc =>
        subst hc
        cases h
        obtain ⟨-, hat⟩ := hcl a _ hha
        obtain ⟨rr, hrr, -⟩ := id hat
        have hlink := hm_nlk C0 hlf
        rw [hm_nnm hrr] at hlink
        exact va_castS hx hb hown hlink (hK.1 ci rr hrr).2 (va_recv hK (hm_one hat) (q0 := 0) hrr rfl) hd (k H locs la hR hL hz hf)
      next => cases h
    next => cases h
  · obtain rfl : n = 2 := hm_lnE hn rfl (by decide)
    obtain ⟨⟨v, w⟩, h1, h2⟩ := Option.map_eq_some_iff.mp h
    cases h2
    have h3 := List.all_eq_true.mp hm_iok _ (hm_lk h1)
    unfold hm_ichk at h3
    dsimp only at h3
    rw [hw0] at h3
    exact lv_ldc hx hb hown (hts _ (hm_tb_of (hm_at_mem h3) rfl)) hd (k H locs la hR hL hz hf)
  · obtain rfl : n = 3 := hm_lnE hn rfl (by decide)
    obtain ⟨⟨v, w⟩, h1, h2⟩ := Option.map_eq_some_iff.mp h
    cases h2
    have h3 := List.all_eq_true.mp hm_iok _ (hm_lk h1)
    unfold hm_ichk at h3
    dsimp only at h3
    rw [hw0] at h3
    exact lv_ldcw hx hb hown (hts _ (hm_tb_of (hm_at_mem h3) rfl)) hd (k H locs la hR hL hz hf)
  · obtain rfl : n = 3 := hm_lnE hn rfl (by decide)
    obtain ⟨⟨v, w⟩, h1, h2⟩ := Option.map_eq_some_iff.mp h
    cases h2
    have h3 := List.all_eq_true.mp hm_lok _ (hm_lk h1)
    unfold hm_lchk at h3
    dsimp only at h3
    rw [hw0] at h3
    exact lv_ldc2 hx hb hown (hts _ (hm_tb_of (hm_at_mem h3) rfl)) hd (k H locs la hR hL hz hf)
  · cases h
end HMR
