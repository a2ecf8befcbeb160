/-! NO SETS WHERE THERE ARE TOO FEW BEARERS -/
theorem hx_en_rise {mn nb : Nat} : ∀ (r l : Nat) (f g : Nat → Nat), g ∈ hx_en mn nb l r f → l ≤ mn → r ≤ nb → (∀ j, mn - l ≤ j → j < mn → nb - r ≤ g j) ∧ ∀ i j, mn - l ≤ i → i < j → j < mn → g i < g j := by
  intro r
  induction r with
  | zero =>
    intro l f g hg _ _
    cases l with
    | zero => exact ⟨fun j h1 h2 => by omega, fun i j h1 h2 h3 => by omega⟩
    | succ l =>
      have e : hx_en mn nb (l + 1) 0 f = [] := by unfold hx_en; rfl
      rw [e] at hg
      cases hg
  | succ r ih =>
    intro l f g hg hl hr
    cases l with
    | zero => exact ⟨fun j h1 h2 => by omega, fun i j h1 h2 h3 => by omega⟩
    | succ l =>
      rw [hx_en] at hg
      rcases List.mem_append.mp hg with h1 | h1
      · obtain ⟨a1, a2⟩ := ih l _ g h1 (by omega) (by omega)
        have e1 : g (mn - (l + 1)) = nb - (r + 1) := (hx_en_pre r l _ g h1 (by omega) (mn - (l + 1)) (by omega)).trans (if_pos rfl)
        refine ⟨fun j h2 h3 => ?_, fun i j h2 h3 h4 => ?_⟩
        · by_cases hj : j = mn - (l + 1)
          · rw [hj, e1]; exact Nat.le_refl _
          · have := a1 j (by omega) h3
            omega
        · by_cases hi : i = mn - (l + 1)
          · rw [hi, e1]
            have := a1 j (by omega) h4
            omega
          · exact a2 i j (by omega) h3 h4
      · obtain ⟨a1, a2⟩ := ih (l + 1) f g h1 hl (by omega)
        refine ⟨fun j h2 h3 => ?_, a2⟩
        have := a1 j h2 h3
        omega
theorem hx_pc_st {f : Nat → Nat} : ∀ n, (∀ j, j < n → f j < 12) → (∀ i j, i < j → j < n → f i < f j) → hc_pc (hx_st f n) = n := by
  intro n
  induction n with
  | zero => intro _ _; exact hc_pc_00
  | succ n ih =>
    intro h1 h2
    have hf : hm_has (hx_st f n) (nI (f n)) = false := by
      cases hc : hm_has (hx_st f n) (nI (f n)) with
      | false => rfl
      | true =>
        obtain ⟨j, h3, h4⟩ := (hx_has_st (by have := h1 n (by omega); omega) n (fun j hj => by have := h1 j (by omega); omega)).mp hc
        have := h2 j n h3 (by omega)
        omega
    show hc_pc (hx_st f n ||| nI 1 <<< (nI (f n) &&& 31)) = n + 1
    rw [hc_pc_or (h1 n (by omega)) hf, ih (fun j hj => h1 j (by omega)) (fun i j h3 h4 => h2 i j h3 (by omega))]
def hx_in (nb : Nat) (x : Int32) : Prop := ∀ i, nb ≤ i → i < 32 → hm_has x (nI i) = false
theorem hx_LL_mem {ht : Nat → Int32} {sp : Int32} {mn nb : Nat} (hnb : nb ≤ 12) {x : Int32} (hx : x ∈ hx_LL ht sp mn nb) : hc_pc x = mn ∧ hx_in nb x := by
  unfold hx_LL at hx
  obtain ⟨f, h1, h2⟩ := List.mem_flatMap.mp hx
  have hlt := hx_en_lt' h1
  have hri := (hx_en_rise nb mn hx_id f h1 (Nat.le_refl _) (Nat.le_refl _)).2
  have hst : (hm_l1 ht f mn 0 (nI 999) (nI 0) (nI 0)).2.2 = hx_st f mn := by
    have e := hx_l1_st (ht := ht) (f := f) mn 0 (nI 999) (nI 0)
    rw [Nat.zero_add] at e
    exact e
  have hxe : x = hx_st f mn := by
    unfold hx_p at h2
    split at h2
    · cases h2
    · rw [List.mem_singleton.mp h2, hst]
  subst hxe
  refine ⟨hx_pc_st mn (fun j hj => by have := hlt j hj; omega) (fun i j h3 h4 => hri i j (by omega) h3 h4), fun i h3 h4 => ?_⟩
  cases hc : hm_has (hx_st f mn) (nI i) with
  | false => rfl
  | true =>
    obtain ⟨j, h5, h6⟩ := (hx_has_st h4 mn (fun j hj => by have := hlt j hj; omega)).mp hc
    have := hlt j h5
    omega
theorem hm_cnt_or {P P2 : Nat → Bool} : ∀ n, (∀ i, i < n → P i = true → P2 i = false) → hm_cnt (fun i => P i || P2 i) n = hm_cnt P n + hm_cnt P2 n := by
  intro n
  induction n with
  | zero => intro _; rfl
  | succ n ih =>
    intro h
    show hm_cnt (fun i => P i || P2 i) n + (if (P n || P2 n) = true then 1 else 0) = hm_cnt P n + (if P n = true then 1 else 0) + (hm_cnt P2 n + (if P2 n = true then 1 else 0))
    rw [ih (fun i hi => h i (by omega))]
    cases h1 : P n with
    | true =>
      rw [h n (by omega) h1]
      show hm_cnt P n + hm_cnt P2 n + 1 = hm_cnt P n + 1 + (hm_cnt P2 n + 0)
      omega
    | false =>
      rw [Bool.false_or, if_neg (show ¬ false = true by decide)]
      omega
theorem hm_cnt_top {P : Nat → Bool} {b : Nat} : ∀ n, (∀ i, b ≤ i → i < n → P i = false) → hm_cnt P n ≤ b := by
  intro n
  induction n with
  | zero => intro _; exact Nat.zero_le _
  | succ n ih =>
    intro h
    show hm_cnt P n + (if P n = true then 1 else 0) ≤ b
    rcases Nat.lt_or_ge n b with h1 | h1
    · have h2 := hm_cnt_len P n
      split <;> omega
    · rw [h n h1 (by omega), if_neg (by decide)]
      exact ih (fun i h2 h3 => h i h2 (by omega))
theorem hx_pc_un {u x : Int32} (h : x &&& u = 0) : hc_pc (u ||| x) = hc_pc u + hc_pc x := by
  unfold hc_pc
  rw [← hm_cnt_or 12 (fun i hi hu => by
    have e := hx_disj.mp (show u &&& x = 0 by rw [hx_and_comm]; exact h) i (by omega) hu
    exact e)]
  exact hm_cnt_cg 12 (fun i hi => hc_has_or _ _ i (by omega))
theorem hx_in_or {nb : Nat} {u x : Int32} (h1 : hx_in nb u) (h2 : hx_in nb x) : hx_in nb (u ||| x) := fun i h3 h4 => by rw [hc_has_or _ _ i h4, h1 i h3 h4, h2 i h3 h4]; rfl
def hx_sum (d : Nat → Nat) : List Nat → Nat
  | [] => 0
  | c :: L => d c + hx_sum d L
theorem hx_sat_sum {ht : Nat → Int32} {nb : Nat} {P : Nat → Int32} {d : Nat → Nat} (hnb : nb ≤ 12) : ∀ (L : List Nat) (u : Int32), hx_in nb u → hx_sat (L.map (fun c => hx_LL ht (P c) (d c) nb)) u → hc_pc u + hx_sum d L ≤ nb := by
  intro L
  induction L with
  | nil =>
    intro u hu _
    have e : hm_cnt (fun i => hm_has u (nI i)) 12 ≤ nb := hm_cnt_top (P := fun i => hm_has u (nI i)) (b := nb) 12 (fun i h1 h2 => hu i h1 (by omega))
    have e2 : hc_pc u ≤ nb := e
    have e3 : hx_sum d [] = 0 := rfl
    omega
  | cons c L ih =>
    intro u hu hs
    obtain ⟨x, h1, h2, h3⟩ := hs
    obtain ⟨e1, e2⟩ := hx_LL_mem hnb h1
    have := ih (u ||| x) (hx_in_or hu e2) h3
    rw [hx_pc_un h2, e1] at this
    show hc_pc u + (d c + hx_sum d L) ≤ nb
    omega
theorem hm_sg_app {N : Nat → Int32} {d : Nat → Nat} : ∀ (L A : List Nat), (∀ c, c ∈ L → N c = nI (d c)) → hm_sg (hc_at N (A ++ L)) (A.length + L.length) = hm_sg (hc_at N (A ++ L)) A.length + nI (hx_sum d L) := by
  intro L
  induction L with
  | nil =>
    intro A _
    show hm_sg _ (A.length + 0) = _ + nI 0
    rw [Nat.add_zero, show (nI 0 : Int32) = 0 from rfl, Int32.add_zero]
  | cons c L ih =>
    intro A h
    have e := ih (A ++ [c]) (fun c2 hc2 => h c2 (List.mem_cons_of_mem _ hc2))
    rw [List.append_assoc, List.length_append] at e
    have e1 : (A ++ c :: L)[A.length]? = some c := by rw [List.getElem?_append_right (Nat.le_refl _), Nat.sub_self]; rfl
    have e2 : hm_sg (hc_at N (A ++ c :: L)) (A.length + 1) = hm_sg (hc_at N (A ++ c :: L)) A.length + nI (d c) := by
      show hm_sg _ A.length + hc_at N (A ++ c :: L) A.length = _
      rw [show hc_at N (A ++ c :: L) A.length = nI (d c) by unfold hc_at; rw [e1]; exact h c List.mem_cons_self]
    rw [List.length_cons, show A.length + (L.length + 1) = A.length + [c].length + L.length by rw [show [c].length = 1 from rfl]; omega]
    refine e.trans ?_
    show hm_sg (hc_at N (A ++ c :: L)) (A.length + 1) + nI (hx_sum d L) = _ + nI (d c + hx_sum d L)
    rw [e2, Int32.add_assoc, nI_add]
theorem hx_sum_le {d : Nat → Nat} : ∀ L : List Nat, (∀ c, c ∈ L → d c ≤ 6) → hx_sum d L ≤ 6 * L.length := by
  intro L
  induction L with
  | nil => intro _; exact Nat.le_refl _
  | cons c L ih =>
    intro h
    have h1 := ih (fun c2 hc2 => h c2 (List.mem_cons_of_mem _ hc2))
    have h2 := h c List.mem_cons_self
    show d c + hx_sum d L ≤ 6 * (L.length + 1)
    omega
/-- what the class finds -/
theorem hx_V {k : hm_M} {h : Nat → Nat} {nb : Nat} {L : List Nat} {d : Nat → Nat} (hnb : nb ≤ 12) (hht : ∀ i, i < nb → k 3 i = nI (h i) ∧ 0 < h i ∧ h i < 999) (hL : L.length ≤ 100) (h12 : ∀ c, c ∈ L → k 12 c = nI (d c) ∧ d c ≤ 6) (h13 : ∀ c, c ∈ L → ∃ s0, k 13 c = nI s0 ∧ s0 < 1000) : hc_V k nb L = hx_sol (L.map (fun c => hx_LL (k 3) (k 13 c) (d c) nb)) (nI 0) := by
  have hmap : L.map (fun c => hx_LL (k 3) (k 13 c) (k 12 c).toNatClampNeg nb) = L.map (fun c => hx_LL (k 3) (k 13 c) (d c) nb) := List.map_congr_left (fun c hc => by rw [(h12 c hc).1, nI_clamp (by have := (h12 c hc).2; omega)])
  have hsum := hm_sg_app (N := k 12) (d := d) L [] (fun c hc => (h12 c hc).1)
  rw [List.nil_append, show ([] : List Nat).length = 0 from rfl, Nat.zero_add, show hm_sg (hc_at (k 12) L) 0 = nI 0 from rfl, nI_add, Nat.zero_add] at hsum
  have hle := hx_sum_le L (fun c hc => (h12 c hc).2)
  unfold hc_V
  rw [hsum]
  by_cases hc : nI (hx_sum d L) ≤ nI nb
  · rw [if_pos hc, hx_ss hnb hht L.length 0 (nI 0) (fun i _ hi => by
      have hi2 : i < L.length := by omega
      unfold hc_at
      rw [List.getElem?_eq_getElem hi2]
      exact h13 _ (List.getElem_mem hi2))]
    have e := hx_lists_map (ht := k 3) (nb := nb) (N := k 12) (P := k 13) L []
    rw [List.nil_append] at e
    rw [show (0 : Nat) = ([] : List Nat).length from rfl, e, hmap]
  · rw [if_neg hc]
    cases hs : hx_sol (L.map (fun c => hx_LL (k 3) (k 13 c) (d c) nb)) (nI 0) with
    | none => rfl
    | some p =>
      have h1 := (hx_sol_sat _ _).mp (by rw [hs]; rfl)
      have h2 := hx_sat_sum hnb L (nI 0) (fun i _ hi => hc_has_0 ⟨i, hi⟩) h1
      rw [hc_pc_00] at h2
      exact absurd ((hx_leI (by omega) (by omega)).mpr (by omega)) hc
