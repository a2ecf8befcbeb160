/-! THE ABSTRACT MACHINE IS SOUND: a run of it is a run of the machine -/
theorem hm_idx {u U : Vm} (hvm : u.Alike U) (P : Class → Bool) (hP : ∀ k k' : Class, k.kind = k'.kind → P k = P k') : U.classes.findIdx? P = u.classes.findIdx? P := by
  have key : ∀ vm : Vm, vm.bare.classes.findIdx? P = vm.classes.findIdx? P := by
    intro vm
    simp only [Vm.bare, Array.findIdx?_map]
    congr 1
    funext k
    exact hP _ _ rfl
  rw [← key U, hvm.bare_eq, key u]
theorem hm_aoa_moved {ty : FieldType} {u U : State} (hvm : u.vm.Alike U.vm) (h : (Cond.arrayOver (.array ty)).before #[] u = true) : (Cond.arrayOver (.array ty)).before #[] U = true := by
  unfold Cond.before Cond.holds at h ⊢
  simp only [Cond.value] at h ⊢
  rw [hvm.findClass]
  cases hc : u.vm.findClass (FieldType.array ty).toString with
  | none => rw [hc] at h; simp at h
  | some comp =>
    rw [hc] at h
    simp only [Option.bind_some] at h ⊢
    rw [hm_idx hvm _ (fun k k' hk => by rw [hk])]
    generalize hx : Array.findIdx? _ u.vm.classes = o at h ⊢
    cases o with
    | none => simp at h
    | some cc =>
      simp only [Option.bind_some] at h ⊢
      cases hk : u.vm.classes[cc]? with
      | none => rw [hk] at h; simp at h
      | some kk =>
        rw [hk] at h
        obtain ⟨k2, hk2, he⟩ := hvm.2.2 _ _ hk
        rw [hk2]
        simp only [Option.map_some] at h ⊢
        have hkind : k2.kind = kk.kind := by rw [he]
        rw [hkind, hvm.findClass]
        exact h
theorem hm_NW.warm {s U : State} (hW : s.WarmedH U.vm) (h : hm_NW s) : hm_NW U := by
  refine ⟨fun w hw hn => ?_, h.2.1.moved hW.alike, h.2.2.1.moved hW.alike, hm_aoa_moved hW.alike h.2.2.2.1, hm_aoa_moved hW.alike h.2.2.2.2.1, h.2.2.2.2.2.1.elim (fun mi h => ⟨mi, h.moved hW.alike⟩), h.2.2.2.2.2.2.moved hW.alike⟩
  have h1 := h.1 w hw hn
  cases w <;> first | (exact va_Nw.warmF hW h1) | (exact va_Nw.warmM hW h1) | (exact va_Nw.warmC hW h1) | (exact absurd hn (by simp [hm_isN]))
theorem hm_NW.same {u U : State} (hv : u.vm = U.vm) (h : hm_NW u) : hm_NW U := by
  refine ⟨fun w hw hn => ?_, ?_, ?_, ?_, ?_, ?_, ?_⟩
  · have h1 := h.1 w hw hn
    cases w <;> first | (exact va_Nw.same rfl hv h1) | (exact absurd hn (by simp [hm_isN]))
  · exact h.2.1.moved (by rw [hv]; exact Vm.Alike.refl _)
  · exact h.2.2.1.moved (by rw [hv]; exact Vm.Alike.refl _)
  · exact hm_aoa_moved (by rw [hv]; exact Vm.Alike.refl _) h.2.2.2.1
  · exact hm_aoa_moved (by rw [hv]; exact Vm.Alike.refl _) h.2.2.2.2.1
  · exact h.2.2.2.2.2.1.elim (fun mi h => ⟨mi, h.moved (by rw [hv]; exact Vm.Alike.refl _)⟩)
  · exact h.2.2.2.2.2.2.moved (by rw [hv]; exact Vm.Alike.refl _)
def hm_Pre (G : hm_E) (as : List Value) (hp : hm_H) : Array Value → State → Prop := fun v U => v = (as.map (hm_v G)).toArray ∧ hm_R G U hp U.heap ∧ hm_NW U
def hm_Post (G : hm_E) (r : Option Value) (hp2 : hm_H) : Array Value → State → Outcome → State → Prop := fun _ _ o t => o = .returned (r.map (hm_v G)) ∧ hm_R G t hp2 t.heap
def hm_rm (d mc ms : Nat) : Room := { frames := d + 1, cells := mc, slots := ms, locals := 40 * (d + 1) }
theorem hm_Pre.blind (G : hm_E) (as : List Value) (hp : hm_H) : FrameBlind (hm_Pre G as hp) := by
  intro a U g mk h
  exact ⟨h.1, hm_R.moved (u := U) (U := U.calling g mk a) (Vm.Alike.refl U.vm) h.2.1, hm_NW.same (u := U) (U := U.calling g mk a) rfl h.2.2⟩
/-! the locals at a method's entry -/
theorem hm_al_len (G : hm_E) : ∀ as : List Value, (hm_al as).length = (lg_sl (as.map (hm_v G))).length
  | [] => rfl
  | v :: vs => by
    have ih := hm_al_len G vs
    show (hm_al (v :: vs)).length = (List.flatMap _ (hm_v G v :: vs.map (hm_v G))).length
    rw [List.flatMap_cons, List.length_append, hm_v_cat]
    unfold hm_al
    by_cases hc : v.category = 2
    · rw [if_pos hc, if_pos hc]
      simp only [List.length_cons, ih]
      show _ = 2 + (lg_sl (vs.map (hm_v G))).length
      omega
    · rw [if_neg hc, if_neg hc]
      simp only [List.length_cons, ih]
      show _ = 1 + (lg_sl (vs.map (hm_v G))).length
      omega
theorem hm_al_mem (G : hm_E) : ∀ (as : List Value) (k i : Nat) (v : Value), (hm_al as)[i]? = some v → (∀ n, v ≠ .retAddr n) → (k + i, hm_v G v) ∈ lv_args k (as.map (hm_v G))
  | [], _, i, v, h, _ => by cases i <;> cases h
  | w :: vs, k, i, v, h, hv => by
    show (k + i, hm_v G v) ∈ (k, hm_v G w) :: lv_args (if (hm_v G w).category = 2 then k + 2 else k + 1) (vs.map (hm_v G))
    rw [hm_v_cat]
    unfold hm_al at h
    by_cases hc : w.category = 2
    · rw [if_pos hc] at h ⊢
      match i, h with
      | 0, h => cases h; exact List.mem_cons_self
      | 1, h => cases h; exact absurd rfl (hv 0)
      | i + 2, h =>
        have := hm_al_mem G vs (k + 2) i v h hv
        rw [show k + (i + 2) = k + 2 + i by omega]
        exact List.mem_cons_of_mem _ this
    · rw [if_neg hc] at h ⊢
      match i, h with
      | 0, h => cases h; exact List.mem_cons_self
      | i + 1, h =>
        have := hm_al_mem G vs (k + 1) i v h hv
        rw [show k + (i + 1) = k + 1 + i by omega]
        exact List.mem_cons_of_mem _ this
theorem hm_ll_val {G : hm_E} {ls : List Value} {q : Nat × Value} (h : q ∈ hm_ll G ls) : ∃ v, ls[q.1]? = some v ∧ q.2 = hm_v G v ∧ ∀ n, v ≠ .retAddr n := by
  obtain ⟨i, -, hi⟩ := List.mem_filterMap.mp h
  cases hl : ls[i]? with
  | none => rw [hl] at hi; cases hi
  | some v =>
    rw [hl] at hi
    cases v <;> first | (cases hi; done) | (cases hi; exact ⟨_, hl, rfl, fun n hn => by cases hn⟩)
theorem hm_entL (G : hm_E) {as : List Value} {n : Nat} (hn : (hm_al as).length ≤ n) {la : Array Slot} (h : lv_has la n (lv_args 0 (as.map (hm_v G)))) : hm_L G la (hm_al as ++ List.replicate (n - (hm_al as).length) (.retAddr 0)) := by
  have hlen : (hm_al as ++ List.replicate (n - (hm_al as).length) (Value.retAddr 0)).length = n := by simp; omega
  refine ⟨by rw [hlen]; exact h.1, h.2.1, fun q hq => ?_⟩
  obtain ⟨v, hv1, hv2, hv3⟩ := hm_ll_val hq
  by_cases hq1 : q.1 < (hm_al as).length
  · rw [List.getElem?_append_left hq1] at hv1
    have hm := hm_al_mem G as 0 q.1 v hv1 hv3
    have := h.2.2 _ hm
    rw [Nat.zero_add] at this
    rw [hv2]
    exact this
  · rw [List.getElem?_append_right (by omega)] at hv1
    have := List.getElem?_replicate (a := Value.retAddr 0) (n := n - (hm_al as).length) (i := q.1 - (hm_al as).length)
    rw [this] at hv1
    split at hv1
    · cases hv1
      exact absurd rfl (hv3 0)
    · cases hv1
/-! methods' own words -/
theorem hm_cw_all : ∀ (M : Nat) (q : hm_Q), M < 174 → hm_mtab[M]? = some q → Cond.code q.1 q.2.1 q.2.2.1 q.2.2.2.1 ∈ tables_1 := by
  intro M q hM hq
  have key : ∀ q ∈ hm_mt0 ++ (hm_mt1 ++ (hm_mt2 ++ (hm_mt3 ++ (hm_mt4 ++ hm_mt5)))), Cond.code q.1 q.2.1 q.2.2.1 q.2.2.2.1 ∈ tables_1 := by
    intro q h
    simp only [List.mem_append] at h
    rcases h with h | h | h | h | h | h
    · exact hm_cwl0 q h
    · exact hm_cwl1 q h
    · exact hm_cwl2 q h
    · exact hm_cwl3 q h
    · exact hm_cwl4 q h
    · exact hm_cwl5 q h
  have e : hm_mtab = (hm_mt0 ++ (hm_mt1 ++ (hm_mt2 ++ (hm_mt3 ++ (hm_mt4 ++ hm_mt5))))) ++ [(x, code, maxLocals, ret, 19, 1, 0)] := by
    unfold hm_mtab
    simp only [List.append_assoc]
  have hl : (hm_mt0 ++ (hm_mt1 ++ (hm_mt2 ++ (hm_mt3 ++ (hm_mt4 ++ hm_mt5))))).length = 174 := rfl
  rw [e, List.getElem?_append_left (by rw [hl]; exact hM)] at hq
  exact key q (List.mem_of_getElem? hq)
theorem hm_mok_all : ∀ (M : Nat) (q : hm_Q), M < 174 → M ≠ 1 → hm_mtab[M]? = some q → ∃ w, hm_mchk q w = true := by
  intro M q hM h1 hq
  have hlen : hm_mw.length = 174 := rfl
  obtain ⟨w, hw⟩ : ∃ w, hm_mw[M]? = some w := ⟨_, List.getElem?_eq_getElem (l := hm_mw) (by rw [hlen]; exact hM)⟩
  have hz : (hm_mtab.zip hm_mw)[M]? = some (q, w) := List.getElem?_zip_eq_some.mpr ⟨hq, hw⟩
  have key : ∀ a b : Nat, a ≤ M → M < a + b → (((hm_mtab.zip hm_mw).drop a).take b).all (fun q => hm_mchk q.1 q.2 || decide (q.1.1.cls = "java/lang/Object")) = true → hm_mchk q w = true ∨ q.1.cls = "java/lang/Object" := by
    intro a b ha hb hall
    have hm : (q, w) ∈ ((hm_mtab.zip hm_mw).drop a).take b := by
      refine List.mem_of_getElem? (i := M - a) ?_
      rw [List.getElem?_take_of_lt (by omega), List.getElem?_drop, show a + (M - a) = M by omega]
      exact hz
    have := List.all_eq_true.mp hall _ hm
    simp only [Bool.or_eq_true, decide_eq_true_eq] at this
    exact this
  have hor : hm_mchk q w = true ∨ q.1.cls = "java/lang/Object" := by
    rcases Nat.lt_or_ge M 30 with h | h
    · exact key 0 30 (by omega) (by omega) hm_mok0
    rcases Nat.lt_or_ge M 60 with h | h
    · exact key 30 30 (by omega) (by omega) hm_mok1
    rcases Nat.lt_or_ge M 90 with h | h
    · exact key 60 30 (by omega) (by omega) hm_mok2
    rcases Nat.lt_or_ge M 120 with h | h
    · exact key 90 30 (by omega) (by omega) hm_mok3
    rcases Nat.lt_or_ge M 150 with h | h
    · exact key 120 30 (by omega) (by omega) hm_mok4
    · exact key 150 24 (by omega) (by omega) hm_mok5
  rcases hor with h | h
  · exact ⟨w, h⟩
  · exfalso
    have : ∀ k : Nat, k < 174 → k ≠ 1 → ∀ q, hm_mtab[k]? = some q → q.1.cls ≠ "java/lang/Object" := by
      have h9 : ((List.range 174).all fun k => decide (k = 1) || (match hm_mtab[k]? with | some q => decide (q.1.cls ≠ "java/lang/Object") | none => true)) = true := by decide +kernel
      intro k hk hk1 q hq
      have := List.all_eq_true.mp h9 k (List.mem_range.mpr hk)
      simp only [hk1, decide_false, Bool.false_or, hq, decide_eq_true_eq] at this
      exact this
    exact this M hM h1 q hq h
/-- the words of a method, one by one -/
theorem hm_mfacts {M : Nat} {q : hm_Q} (hM : M < 174) (h1 : M ≠ 1) (hq : hm_mtab[M]? = some q) : (Cond.initialized q.1.cls ∈ tables_1 ∧ (q.1.cls ≠ "java/lang/invoke/MethodHandle" ∧ q.1.cls ≠ "java/lang/invoke/VarHandle") ∧ hm_own[q.2.2.2.2.1]? = some q.1.cls ∧ q.2.2.1 ≤ 21 ∧ plainFor q.1 = true ∧ (parseMethodDescriptor q.1.desc).map (fun d => d.parameters.length) = some (if q.2.2.2.2.2.2 = 0 then q.2.2.2.2.2.1 else q.2.2.2.2.2.1 - 1)) ∧
    ((q.2.2.2.2.2.2 = 0 → Cond.static q.1 ∈ tables_1) ∧ (q.2.2.2.2.2.2 = 1 → Cond.instanceMethod q.1 ∈ tables_1 ∧ Cond.selects q.1.cls q.1 q.1 ∈ lw_tbl) ∧ (q.2.2.2.2.2.2 = 2 → Cond.instanceMethod q.1 ∈ tables_1 ∧ q.1.name = "<init>" ∧ q.2.2.2.1 = none)) := by
  obtain ⟨w, hw⟩ := hm_mok_all M q hM h1 hq
  obtain ⟨y, b, mL, rt, cid, na, kd⟩ := q
  unfold hm_mchk hm_nmH at hw
  simp only [Bool.and_eq_true, decide_eq_true_eq] at hw
  obtain ⟨⟨⟨⟨⟨⟨⟨a1, a2⟩, a3⟩, a4⟩, a5⟩, a6⟩, a7⟩, a8⟩ := hw
  refine ⟨⟨hm_at_mem a1, a2, a3, a4, a5, a6⟩, fun hk => ?_, fun hk => ?_, fun hk => ?_⟩
  · have hk : kd = 0 := hk
    subst hk
    exact hm_at_mem a8
  · have hk : kd = 1 := hk
    subst hk
    simp only [Bool.and_eq_true, decide_eq_true_eq] at a8
    exact ⟨hm_at_mem a8.1, List.mem_of_getElem? a8.2⟩
  · have hk : kd = 2 := hk
    subst hk
    simp only [Bool.and_eq_true, decide_eq_true_eq] at a8
    exact ⟨hm_at_mem a8.1.1, a8.1.2, a8.2⟩
theorem hm_goodIn {w : Cond} (h : w ∈ tables_1) (hg : goodWord w = true) : GoodIn hm_tb (w :: hm_tb) := by
  intro u hu
  rcases List.mem_cons.mp hu with rfl | hu
  · exact ⟨hm_tb_of h hg, good_of_word hg⟩
  · exact ⟨hu, good_of_word (List.mem_filter.mp hu).2⟩
