theorem hm_code_ok {M pc : Nat} {i : Instr} {q : hm_Q} (hq : hm_mtab[M]? = some q) (h : hm_code M pc = some i) : ∃ n, decode q.2.1 pc = .ok (i, n) ∧ (hm_ln i = n ∨ hm_ln i = 0) := by
  unfold hm_code at h
  rw [hq] at h
  dsimp only at h
  split at h
  next i2 n he =>
    split at h
    next hc => cases h; exact ⟨n, he, hc⟩
    next => cases h
  next => cases h
theorem hm_own_cls {k : Nat} {r : vw_C} (h : hm_cls[k]? = some r) : hm_own[k]? = some r.1 := by
  have hk : k < 10 := (List.getElem?_eq_some_iff.mp h).1
  exact hm_lt10 (P := fun k => ∀ r, hm_cls[k]? = some r → hm_own[k]? = some r.1) ⟨fun r h => by cases h; rfl, fun r h => by cases h; rfl, fun r h => by cases h; rfl, fun r h => by cases h; rfl, fun r h => by cases h; rfl, fun r h => by cases h; rfl, fun r h => by cases h; rfl, fun r h => by cases h; rfl, fun r h => by cases h; rfl, fun r h => by cases h; rfl⟩ k hk r h
def hm_At (l : Launch) (G : hm_E) (f : Nat) : Prop := ∀ (d M pc : Nat) (ls st : List Value) (hp hp2 : hm_H) (r : Option Value) (q : hm_Q), hm_run f d M pc ls st hp = some (r, hp2) → hm_mtab[M]? = some q →
  ∀ (p : Program) (e : Env) (R : Room) (s : State) (m : MethodId) (args : Array Value) (below : List Frame) (meth : Method) (c : Code) (Q : State → Prop) (n0 s0 : Nat), hm_Cx p s m args meth c q → n0 ≤ hp.2.1 → s0 ≤ hp.2.2 → hp2.2.1 - n0 ≤ R.cells → hp2.2.2 - s0 ≤ R.slots → d + 1 ≤ R.frames → 40 * (d + 1) ≤ R.locals →
  (∀ (pc2 : Nat) (ls2 st2 : List Value) (i : Instr) (n : Nat), decode q.2.1 pc2 = .ok (i, n) → (hm_ln i = n ∨ hm_ln i = 0) → hm_ret i q.2.2.2.1 st2 = some r → hm_K p l e R s m args below meth c Q G n0 s0 (pc2, ls2, st2, hp2)) →
  hm_K p l e R s m args below meth c Q G n0 s0 (pc, ls, st, hp)
/-- a run of a method is its contract -/
theorem hm_metOf {l : Launch} {G : hm_E} {f d M : Nat} (ih : hm_At l G f) {q : hm_Q} {as l0 : List Value} {hp hp2 : hm_H} {r : Option Value} (hM : M < 174) (hM1 : M ≠ 1) (hq : hm_mtab[M]? = some q) (hl : hm_ent M as = some l0) (h : hm_run f d M 0 l0 [] hp = some (r, hp2)) :
    Met l q.1 (Cond.code q.1 q.2.1 q.2.2.1 q.2.2.2.1 :: hm_tb) (hm_rm d (hp2.2.1 - hp.2.1) (hp2.2.2 - hp.2.2)) (hm_Pre G as hp) (hm_Post G r hp2) (hp2.2.1 - hp.2.1) (hp2.2.2 - hp.2.2) (fun a => G.1 ≤ a) := by
  obtain ⟨⟨w1, w2, w3, w4, w5, w6⟩, -⟩ := hm_mfacts hM hM1 hq
  refine va_MetF (cc := q.2.1) (maxL := q.2.2.1) (ret := q.2.2.2.1) w5 rfl ?_
  intro p e s m args below meth c s₁ B hml hv
  obtain ⟨rfl, hR, hNW⟩ := hv
  have hts := atoms_spec (ws := Cond.code q.1 q.2.1 q.2.2.1 q.2.2.2.1 :: hm_tb) B.pre
  have C0 : hm_Cx p s m (as.map (hm_v G)).toArray meth c q := ⟨B.exec, B.bytes, hml, B.returns, B.notSynchronized, findClass_of_methodNamed B.named, fun z => (name_of_methodNamed B.named B.method).1.trans z, w3, fun w hw => hts w (List.mem_cons_of_mem _ hw), hNW⟩
  unfold hm_ent at hl
  rw [hq] at hl
  dsimp only at hl
  split at hl
  next hlen =>
    cases hl
    have hle := hm_al_len G as
    have hent := lv_entry (as.map (hm_v G)) (n := q.2.2.1) (by rw [← hle]; exact hlen)
    rw [lg_entry_eq]
    generalize (lg_sl (as.map (hm_v G)) ++ List.replicate (q.2.2.1 - (lg_sl (as.map (hm_v G))).length) Slot.unset).toArray = la at hent ⊢
    have hL := hm_entL G hlen hent
    have key := ih d M 0 _ [] hp hp2 r q h hq p e (hm_rm d (hp2.2.1 - hp.2.1) (hp2.2.2 - hp.2.2)) s m (as.map (hm_v G)).toArray below meth c (MQ below (hm_Post G r hp2) (as.map (hm_v G)).toArray s (hp2.2.1 - hp.2.1) (hp2.2.2 - hp.2.2) (fun a => G.1 ≤ a)) hp.2.1 hp.2.2 C0 (Nat.le_refl _) (Nat.le_refl _) (Nat.le_refl _) (Nat.le_refl _) (Nat.le_refl _) (Nat.le_refl _) (by
      intro pc2 ls2 st2 i n hd hn hret H locs la2 hR2 hL2 hz2 hf2
      have hx := B.exec
      have hb := B.bytes
      have hr := B.returns
      have hlocks := B.notSynchronized
      unfold hm_ret at hret
      split at hret
      · obtain rfl : n = 1 := hm_lnE hn rfl (by decide)
        cases hret
        exact W.vret hx hb (by rw [hr]; assumption) (fun t ht hW => ⟨rfl, by rw [ht]; exact hR2.moved hW.alike⟩) hf2 hd
      · obtain rfl : n = 1 := hm_lnE hn rfl (by decide)
        cases hret
        exact W.iret hx hb (by rw [hr]; assumption) (fun t ht hW => ⟨rfl, by rw [ht]; exact hR2.moved hW.alike⟩) hf2 hd
      · obtain rfl : n = 1 := hm_lnE hn rfl (by decide)
        rename_i x _
        split at hret
        next h01 =>
          cases hret
          refine W.zret (ty := .boolean) hx hb (by rw [hr]; assumption) ?_ (fun t ht hW => ⟨rfl, by rw [ht]; exact hR2.moved hW.alike⟩) hf2 hd
          rcases h01 with rfl | rfl
          · decide +kernel
          · decide +kernel
        next => cases hret
      · obtain rfl : n = 1 := hm_lnE hn rfl (by decide)
        cases hret
        exact W.lret hx hb (by rw [hr]; assumption) (fun t ht hW => ⟨rfl, by rw [ht]; exact hR2.moved hW.alike⟩) hf2 hd
      · obtain rfl : n = 1 := hm_lnE hn rfl (by decide)
        cases hret
        exact W.aret hx hb (by rw [hr]; assumption) (Or.inl ⟨_, rfl⟩) (Or.inr ⟨_, rfl⟩) (fun t ht hW => ⟨rfl, by rw [ht]; exact hR2.moved hW.alike⟩) hf2 hd
      · obtain rfl : n = 1 := hm_lnE hn rfl (by decide)
        cases hret
        exact W.aret hx hb (by rw [hr]; assumption) (Or.inl ⟨_, rfl⟩) (Or.inl rfl) (fun t ht hW => ⟨rfl, by rw [ht]; exact hR2.moved hW.alike⟩) hf2 hd
      · obtain rfl : n = 1 := hm_lnE hn rfl (by decide)
        cases hret
        exact W.aret hx hb (by rw [hr]; assumption) (Or.inr ⟨_, rfl⟩) (Or.inr ⟨_, rfl⟩) (fun t ht hW => ⟨rfl, by rw [ht]; exact hR2.moved hW.alike⟩) hf2 hd
      · obtain rfl : n = 1 := hm_lnE hn rfl (by decide)
        cases hret
        exact W.aret hx hb (by rw [hr]; assumption) (Or.inr ⟨_, rfl⟩) (Or.inl rfl) (fun t ht hW => ⟨rfl, by rw [ht]; exact hR2.moved hW.alike⟩) hf2 hd
      · cases hret)
    have kk := key s.heap [] la hR hL (by rw [hml]; exact hent.1) (fun q h => by cases h)
    exact W.cs (show 0 = hp.2.1 - hp.2.1 by omega) (show 0 = hp.2.2 - hp.2.2 by omega) kk
  next => cases hl
section HMC
variable {p : Program} {l : Launch} {e : Env} {R : Room} {s : State} {m : MethodId} {args : Array Value} {below : List Frame} {meth : Method} {c : Code} {Q : State → Prop}
variable {pc n n0 s0 : Nat} {i : Instr} {ls st : List Value} {hp : hm_H} {σ : hm_S} {G : hm_E} {q : hm_Q}
/-- the link of a call -/
theorem hm_clk (C0 : hm_Cx p s m args meth c q) {ix cc nst w : Nat} {rq : hm_Q} (hrq : hm_mtab[cc]? = some rq) (h : hm_ctab.lookup (q.2.2.2.2.1, ix) = some (cc, nst, w)) : (Cond.methodLink q.1.cls ix rq.1).before args s = true ∨ va_Nw (.methodLinkNest q.1.cls ix rq.1 "HourPromised") s := by
  obtain ⟨-, -, -, -, -, -, -, hw0, hts, hNW⟩ := C0
  have h1 := List.all_eq_true.mp hm_cok _ (hm_lk h)
  unfold hm_cchk at h1
  dsimp only at h1
  rw [hw0, hrq] at h1
  dsimp only at h1
  split at h1
  · exact Or.inl (hts _ (hm_tb_of (hm_at_mem h1) rfl))
  · exact Or.inr (hNW.1 _ (hm_at_mem h1) rfl)
set_option maxHeartbeats 2000000 in
theorem hm_callK {f d2 : Nat} (ih : hm_At l G f) (C0 : hm_Cx p s m args meth c q) (hd : decode q.2.1 pc = .ok (i, n)) (hn : hm_ln i = n ∨ hm_ln i = 0) {cc : Nat} {as rest l0 : List Value} {r1 : Option Value} {hp1 : hm_H} (hc : hm_cal q i st hp = some (cc, as, rest)) (hl : hm_ent cc as = some l0) (h1 : hm_run f d2 cc 0 l0 [] hp = some (r1, hp1)) (hn0 : n0 ≤ hp.2.1) (hs0 : s0 ≤ hp.2.2) (hc1 : hp1.2.1 - n0 ≤ R.cells) (hs1 : hp1.2.2 - s0 ≤ R.slots) (hfr : d2 + 1 + 1 ≤ R.frames) (hlo : 40 * (d2 + 1 + 1) ≤ R.locals) (k : hm_K p l e R s m args below meth c Q G n0 s0 (pc + 3, ls, r1.toList ++ rest, hp1)) : hm_K p l e R s m args below meth c Q G n0 s0 (pc, ls, st, hp) := by
  intro H locs la hR hL hz hf
  obtain ⟨hx, hb, hml, hr, hlk, hown, hnm, hw0, hts, hNW⟩ := id C0
  obtain ⟨hK, hsz, hcl, hst⟩ := id hR
  obtain ⟨hle1, hle2⟩ := hm_run_le h1
  unfold hm_cal at hc
  split at hc
  next => cases hc
  next c2 kd htg =>
    split at hc
    next => cases hc
    next rq hrq =>
      split at hc
      next hcond =>
        obtain ⟨⟨hlt, hne1, hne2⟩, ⟨hkd, hnast⟩, hrl, hrcv⟩ := hcond
        cases hc
        obtain ⟨⟨w1, w2, w3, w4, w5, w6⟩, w7, w8, w9⟩ := hm_mfacts hlt hne1 hrq
        have hM := hm_metOf ih hlt hne1 hrq hl h1
        have hcw := hm_cw_all _ _ hlt hrq
        have hG := hm_goodIn hcw rfl
        have hini := hts _ (hm_tb_of w1 rfl)
        have hroom : (hm_rm d2 (hp1.2.1 - hp.2.1) (hp1.2.2 - hp.2.2)).frames + 1 ≤ R.frames ∧ 8 + (rq.2.2.1 + 11) + (hm_rm d2 (hp1.2.1 - hp.2.1) (hp1.2.2 - hp.2.2)).locals ≤ R.locals := ⟨hfr, by show 8 + (rq.2.2.1 + 11) + 40 * (d2 + 1) ≤ R.locals; omega⟩
        have hsum : 2 * (F0 m pc la (st.map (hm_v G))).monitorRoom + ((((st.drop rq.2.2.2.2.2.1)).map (hm_v G)).map fun v => v.category).sum ≤ 8 := lv_room (hm_sum2 _ hrl)
        have hfit : hp.2.1 - n0 + (hp1.2.1 - hp.2.1) ≤ R.cells ∧ hp.2.2 - s0 + (hp1.2.2 - hp.2.2) ≤ R.slots := ⟨by omega, by omega⟩
        have hpre : ∀ U : State, U.heap = H → s.WarmedH U.vm → hm_Pre G ((st.take rq.2.2.2.2.2.1).reverse) hp (((st.take rq.2.2.2.2.2.1).reverse).map (hm_v G)).toArray U := fun U hU hW => ⟨rfl, by rw [hU]; exact hR.moved hW.alike, hNW.warm hW⟩
        have hsz2 : (F0 m pc la (st.map (hm_v G))).locals.size = q.2.2.1 := hz.trans hml
        have hlen : (st.take rq.2.2.2.2.2.1).reverse.length = rq.2.2.2.2.2.1 := by simp; omega
        have hstk : st.map (hm_v G) = (((st.take rq.2.2.2.2.2.1).reverse).map (hm_v G)).reverse ++ (st.drop rq.2.2.2.2.2.1).map (hm_v G) := by
          rw [← List.map_reverse, List.reverse_reverse, ← List.map_append, List.take_append_drop]
        have fin : ∀ a9 : Array Value, va_Run p l e R s m args below meth c H locs (hp.2.1 - n0) (hp.2.2 - s0) (hp1.2.1 - hp.2.1) (hp1.2.2 - hp.2.2) (F0 m pc la (st.map (hm_v G))) ((st.drop rq.2.2.2.2.2.1).map (hm_v G)) (hm_Post G r1 hp1 a9) (fun a => G.1 ≤ a) → W p l e R s m args below meth c H locs (hp.2.1 - n0) (hp.2.2 - s0) Q (F0 m pc la (st.map (hm_v G))) := by
          intro a9 hrun T hT X
          obtain ⟨v, st₀, t, T', L, h0, X', hLf, e1, e2, ⟨hv, hRt⟩, stp⟩ := hrun T hT X
          have hv2 : v = r1.map (hm_v G) := Outcome.returned.inj hv
          subst hv2
          have hal : s.vm.Alike t.vm := by rw [← e2]; exact X'.warmed.alike
          have hR1 : hm_R G s hp1 T'.heap := by rw [e1]; exact hRt.moved hal.symm
          have ec : hp.2.1 - n0 + (hp1.2.1 - hp.2.1) = hp1.2.1 - n0 := by omega
          have es : hp.2.2 - s0 + (hp1.2.2 - hp.2.2) = hp1.2.2 - s0 := by omega
          rw [ec, es] at X'
          obtain ⟨t2, a1, b1⟩ := k T'.heap (locs ++ L) la hR1 hL hz (t_lL (free := fun x => G.1 ≤ x) hf hLf) T' rfl X'
          refine ⟨t2, stp t2 ?_, b1⟩
          have e3 : (r1.toList ++ st.drop rq.2.2.2.2.2.1).map (hm_v G) = (r1.map (hm_v G)).toList ++ (st.drop rq.2.2.2.2.2.1).map (hm_v G) := by
            rw [List.map_append]
            cases r1 <;> rfl
          have a2 : Steps p.tables e below (T'.setTop (F0 m (pc + 3) la ((r1.toList ++ st.drop rq.2.2.2.2.2.1).map (hm_v G)))) t2 := a1
          rw [e3] at a2
          exact a2
        unfold hm_tgt at htg
        split at htg
        · obtain rfl : n = 3 := hm_lnE hn rfl (by decide)
          obtain ⟨⟨c3, nst, w⟩, hlf, he⟩ := Option.map_eq_some_iff.mp htg
          cases he
          have hk0 : rq.2.2.2.2.2.2 = 0 := hkd
          rw [if_pos hk0] at w6
          have hstat := hts _ (hm_tb_of (w7 hk0) rfl)
          rcases hm_clk C0 hrq hlf with hlink | hlink
          · exact fin _ (va_runS ⟨hx, hb, hml, hown, hts⟩ hM ⟨callB_of _ hts hG rfl rfl rfl hini hlink ⟨w2.1, w2.2, w6⟩ hroom, hstat⟩ ⟨hm_Pre.blind _ _ _, hpre⟩ rfl (by rw [List.length_map]; exact hlen) hsz2 hstk hsum hd hfit)
          · exact fin _ (va_runSN ⟨hx, hb, hml, hown, hts⟩ hM ⟨va_cnB _ hts hG rfl rfl rfl hlink hini ⟨w2.1, w2.2, w6⟩ hroom, hstat, trivial⟩ ⟨hm_Pre.blind _ _ _, hpre⟩ rfl (by rw [List.length_map]; exact hlen) hsz2 hstk hsum hd hfit)
        · obtain rfl : n = 3 := hm_lnE hn rfl (by decide)
          obtain ⟨⟨c3, nst, w⟩, hlf, he⟩ := Option.map_eq_some_iff.mp htg
          cases he
          have hk1 : rq.2.2.2.2.2.2 = 1 := hkd
          rw [if_neg (by omega)] at w6
          have hinst := hts _ (hm_tb_of (w8 hk1).1 rfl)
          have hsel : (Cond.selects rq.1.cls rq.1 rq.1).before args s = true := hts _ (List.mem_filter.mpr ⟨(w8 hk1).2, rfl⟩)
          generalize has : (st.take rq.2.2.2.2.2.1).reverse = as at *
          unfold hm_rcv at hrcv
          split at hrcv
          · omega
          · rename_i a as2 _
            split at hrcv
            next cj fs hha =>
              have hcj : cj = rq.2.2.2.2.1 := of_decide_eq_true hrcv
              obtain ⟨-, hat⟩ := hcl a _ hha
              obtain ⟨rr, hrr, -⟩ := id hat
              have hnmc : rr.1 = rq.1.cls := by
                have := hm_own_cls hrr
                rw [hcj, w3] at this
                exact (Option.some.inj this).symm
              have hrecv := va_recv hK (hm_one hat) (q0 := 0) hrr rfl
              rw [hnmc] at hrecv
              have hlen2 : (as2.map (hm_v G)).length = rq.2.2.2.2.2.1 - 1 := by
                rw [List.length_map]
                have : as2.length + 1 = rq.2.2.2.2.2.1 := hlen
                omega
              have hstk2 : st.map (hm_v G) = (as2.map (hm_v G)).reverse ++ .ref (hm_rho G a) :: (st.drop rq.2.2.2.2.2.1).map (hm_v G) := by
                rw [hstk]
                simp [hm_v]
              rcases hm_clk C0 hrq hlf with hlink | hlink
              · exact fin _ (va_runV (C := rq.1.cls) (b := hm_rho G a) (As := as2.map (hm_v G)) ⟨hx, hb, hml, hown, hts⟩ hM ⟨callB_of _ hts hG rfl rfl rfl hini hlink ⟨w2.1, w2.2, w6⟩ hroom, hinst, hsel⟩ ⟨hm_Pre.blind _ _ _, hrecv, hpre⟩ rfl hlen2 hsz2 hstk2 hsum hd hfit)
              · exact fin _ (va_runVN (C := rq.1.cls) (b := hm_rho G a) (As := as2.map (hm_v G)) ⟨hx, hb, hml, hown, hts⟩ hM ⟨va_cnB _ hts hG rfl rfl rfl hlink hini ⟨w2.1, w2.2, w6⟩ hroom, hinst, hsel⟩ ⟨hm_Pre.blind _ _ _, hrecv, hpre⟩ rfl hlen2 hsz2 hstk2 hsum hd hfit)
            next => cases hrcv
          · omega
          · cases hrcv
        · obtain rfl : n = 3 := hm_lnE hn rfl (by decide)
          obtain ⟨⟨c3, nst, w⟩, hlf, he⟩ := Option.map_eq_some_iff.mp htg
          cases he
          have hk2 : rq.2.2.2.2.2.2 = 2 := hkd
          rw [if_neg (by omega)] at w6
          obtain ⟨w91, w92, w93⟩ := w9 hk2
          have hinst := hts _ (hm_tb_of w91 rfl)
          generalize has : (st.take rq.2.2.2.2.2.1).reverse = as at *
          unfold hm_rcv at hrcv
          split at hrcv
          · omega
          · omega
          · rename_i a as2 _
            have hlen2 : (as2.map (hm_v G)).length = rq.2.2.2.2.2.1 - 1 := by
              rw [List.length_map]
              have : as2.length + 1 = rq.2.2.2.2.2.1 := hlen
              omega
            have hstk2 : st.map (hm_v G) = (as2.map (hm_v G)).reverse ++ .ref (hm_rho G a) :: (st.drop rq.2.2.2.2.2.1).map (hm_v G) := by
              rw [hstk]
              simp [hm_v]
            rw [w93] at hM hG
            rcases hm_clk C0 hrq hlf with hlink | hlink
            · exact fin _ (va_runI (b := hm_rho G a) (As := as2.map (hm_v G)) ⟨hx, hb, hml, hown, hts⟩ hM ⟨callB_of _ hts hG rfl rfl rfl hini hlink ⟨w2.1, w2.2, w6⟩ hroom, w92, hinst⟩ ⟨hm_Pre.blind _ _ _, hpre⟩ rfl hlen2 hsz2 hstk2 hsum hd hfit)
            · exact fin _ (va_runIN (b := hm_rho G a) (As := as2.map (hm_v G)) ⟨hx, hb, hml, hown, hts⟩ hM ⟨va_cnB _ hts hG rfl rfl rfl hlink hini ⟨w2.1, w2.2, w6⟩ hroom, w92, hinst⟩ ⟨hm_Pre.blind _ _ _, hpre⟩ rfl hlen2 hsz2 hstk2 hsum hd hfit)
          · cases hrcv
        · cases htg
      next => cases hc
end HMC
