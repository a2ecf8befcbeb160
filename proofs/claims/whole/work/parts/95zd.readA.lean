/-! THE READER AGAINST THE AUTOMATON -/
def hc_im (it : Int32) (cl : Nat) (F : Nat → Int32) : Prop := (∀ i, i < 6 → hm_has it (nI i) = hm_has (F (5 * cl)) (nI i)) ∧ (hm_has it (nI 6) = decide (0 ≤ F (5 * cl + 1))) ∧ (hm_has it (nI 7) = decide (0 ≤ F (5 * cl + 2))) ∧ (hm_has it (nI 8) = decide (F (5 * cl + 3) = nI 1)) ∧ (∀ t, t < 4 → hm_has it (nI (9 + t)) = hm_has (F (5 * cl + 4)) (nI t))
def hc_J (k : hm_M) (q a aw cl bd : Nat) (seen : Int32) (F : Nat → Int32) : Prop := (k 47 0 = nI a ∧ k 46 0 = nI aw ∧ aw < 4 ∧ k 50 0 = seen) ∧ hc_LF k q F ∧ (∀ t, t < 4 → hm_has seen (nI t) = false → ∀ i, i < 5 → F (5 * t + i) = hc_f0 i) ∧ (¬ aw = 0 → k 48 0 = nI cl ∧ cl < 4 ∧ hm_has (F (5 * cl + 4)) (nI cl) = false ∧ hm_has seen (nI cl) = true) ∧ (aw = 1 ∨ aw = 2 → hc_im (k 51 0) cl F) ∧ (aw = 3 → k 49 0 = nI bd ∧ (bd = 1 ∨ bd = 2) ∧ hc_im (k 51 0) cl (upd F (5 * cl + bd) (nI 0)))
def hc_nk (k : hm_M) (q cl : Nat) (it : Int32) (f : Nat → Int32) (nx : Nat) : hm_M := hm_uM (hm_uM (hm_uM (hm_uM k 51 (fun _ => it)) (60 + 4 * q + cl) f) 47 (fun _ => k 47 0 + nI 1)) 46 (fun _ => nI nx)
theorem hc_nk_lo {k : hm_M} {q cl nx j : Nat} {it : Int32} {f : Nat → Int32} (h : j < 60) (h1 : ¬ j = 46) (h2 : ¬ j = 47) (h3 : ¬ j = 51) : hc_nk k q cl it f nx j = k j := (if_neg h1).trans ((if_neg h2).trans ((if_neg (by omega)).trans (if_neg h3)))
theorem hc_nk_51 {k : hm_M} {q cl nx : Nat} {it : Int32} {f : Nat → Int32} : hc_nk k q cl it f nx 51 0 = it := by
  have e : hc_nk k q cl it f nx 51 = (fun _ => it) := by
    show (if 51 = 60 + 4 * q + cl then f else (fun _ => it)) = _
    rw [if_neg (by omega)]
  rw [e]
theorem hc_nk_row {k : hm_M} {q cl nx t : Nat} {it : Int32} {f : Nat → Int32} : hc_nk k q cl it f nx (60 + 4 * q + t) = (if t = cl then f else k (60 + 4 * q + t)) := by
  have e : hc_nk k q cl it f nx (60 + 4 * q + t) = (if 60 + 4 * q + t = 60 + 4 * q + cl then f else if 60 + 4 * q + t = 51 then (fun _ => it) else k (60 + 4 * q + t)) := (if_neg (by omega)).trans (if_neg (by omega))
  rw [e]
  by_cases h : t = cl
  · rw [if_pos h, if_pos (by omega)]
  · rw [if_neg h, if_neg (by omega), if_neg (by omega)]
theorem hc_nk_rs {k : hm_M} {q cl nx : Nat} {it : Int32} {f : Nat → Int32} (hcl : cl < 4) : hc_rs q k (hc_nk k q cl it f nx) := fun j h1 h2 h3 => (if_neg (by omega)).trans ((if_neg (by omega)).trans ((if_neg (by omega)).trans (if_neg (by omega))))
theorem hc_LF_u {k : hm_M} {q cl nx i0 : Nat} {it v : Int32} {F : Nat → Int32} (hcl : cl < 4) (hi : i0 < 5) (h : hc_LF k q F) : hc_LF (hc_nk k q cl it (upd (k (60 + 4 * q + cl)) i0 v) nx) q (upd F (5 * cl + i0) v) := by
  intro t ht i hi5
  rw [hc_nk_row]
  by_cases htc : t = cl
  · subst htc
    rw [if_pos rfl]
    by_cases h2 : i = i0
    · subst h2
      exact (if_pos rfl).trans (if_pos rfl).symm
    · exact (if_neg h2).trans ((h t ht i hi5).trans (if_neg (by omega)).symm)
  · rw [if_neg htc]
    exact (h t ht i hi5).trans (if_neg (by omega)).symm
/-- an item is kept -/
theorem hc_J_item {k : hm_M} {q a cl bd i0 : Nat} {seen it v : Int32} {F : Nat → Int32} (J : hc_J k q a 2 cl bd seen F) (hi : i0 < 5) (him : hc_im it cl (upd F (5 * cl + i0) v)) (hown : hm_has (upd F (5 * cl + i0) v (5 * cl + 4)) (nI cl) = false) : hc_J (hc_nk k q cl it (upd (k (60 + 4 * q + cl)) i0 v) 2) q (a + 1) 2 cl bd seen (upd F (5 * cl + i0) v) := by
  obtain ⟨⟨j1, j2, j3, j4⟩, j5, j6, j7, j8, j9⟩ := J
  obtain ⟨j71, j72, j73, j74⟩ := j7 (by decide)
  refine ⟨⟨?_, rfl, by decide, ?_⟩, hc_LF_u j72 hi j5, fun t ht hs i hi5 => ?_, fun _ => ⟨?_, j72, hown, j74⟩, fun _ => ?_, fun h => absurd h (by decide)⟩
  · show k 47 0 + nI 1 = _
    rw [j1, nI_add]
  · rw [hc_nk_lo (by decide) (by decide) (by decide) (by decide)]; exact j4
  · have htc : ¬ t = cl := fun z => by rw [z, j74] at hs; cases hs
    exact (if_neg (by omega)).trans (j6 t ht hs i hi5)
  · rw [hc_nk_lo (by decide) (by decide) (by decide) (by decide)]; exact j71
  · rw [hc_nk_51]; exact him
theorem hc_im_or {it : Int32} {x j : Nat} (hx : x < 13) (hj : j < 13) : hm_has (it ||| nI 1 <<< (nI x &&& 31)) (nI j) = (hm_has it (nI j) || decide (j = x)) := by
  rw [hc_has_or _ _ j (by omega), hc_has_1 x j (by omega) (by omega)]
theorem hc_upd_s {f : Nat → Int32} {i : Nat} {x : Int32} : upd f i x i = x := if_pos rfl
theorem hc_im_pap {it : Int32} {cl i : Nat} {F : Nat → Int32} (h : hc_im it cl F) (hi : i < 6) : hc_im (it ||| nI 1 <<< (nI i &&& 31)) cl (upd F (5 * cl + 0) (F (5 * cl) ||| nI 1 <<< (nI i &&& 31))) := by
  obtain ⟨h1, h2, h3, h4, h5⟩ := h
  refine ⟨fun j hj => ?_, ?_, ?_, ?_, fun t ht => ?_⟩
  · rw [hc_im_or (by omega) (by omega), show upd F (5 * cl + 0) (F (5 * cl) ||| nI 1 <<< (nI i &&& 31)) (5 * cl) = _ from hc_upd_s, hc_im_or (by omega) (by omega), h1 j hj]
  · rw [hc_im_or (by omega) (by omega), hm_upd_o (by omega), h2, decide_eq_false (show ¬ 6 = i by omega), Bool.or_false]
  · rw [hc_im_or (by omega) (by omega), hm_upd_o (by omega), h3, decide_eq_false (show ¬ 7 = i by omega), Bool.or_false]
  · rw [hc_im_or (by omega) (by omega), hm_upd_o (by omega), h4, decide_eq_false (show ¬ 8 = i by omega), Bool.or_false]
  · rw [hc_im_or (by omega) (by omega), hm_upd_o (by omega), h5 t ht, decide_eq_false (show ¬ 9 + t = i by omega), Bool.or_false]
theorem hc_im_ban {it : Int32} {cl : Nat} {F : Nat → Int32} (h : hc_im it cl F) : hc_im (it ||| nI 1 <<< (nI 8 &&& 31)) cl (upd F (5 * cl + 3) (nI 1)) := by
  obtain ⟨h1, h2, h3, h4, h5⟩ := h
  refine ⟨fun j hj => ?_, ?_, ?_, ?_, fun t ht => ?_⟩
  · rw [hc_im_or (by omega) (by omega), hm_upd_o (by omega), h1 j hj, decide_eq_false (show ¬ j = 8 by omega), Bool.or_false]
  · rw [hc_im_or (by omega) (by omega), hm_upd_o (by omega), h2, decide_eq_false (show ¬ 6 = 8 by omega), Bool.or_false]
  · rw [hc_im_or (by omega) (by omega), hm_upd_o (by omega), h3, decide_eq_false (show ¬ 7 = 8 by omega), Bool.or_false]
  · rw [hc_im_or (by omega) (by omega), hc_upd_s, decide_eq_true rfl, decide_eq_true rfl, Bool.or_true]
  · rw [hc_im_or (by omega) (by omega), hm_upd_o (by omega), h5 t ht, decide_eq_false (show ¬ 9 + t = 8 by omega), Bool.or_false]
theorem hc_im_stp {it : Int32} {cl x : Nat} {F : Nat → Int32} (h : hc_im it cl F) (hx : x < 4) : hc_im (it ||| nI 1 <<< (nI (9 + x) &&& 31)) cl (upd F (5 * cl + 4) (F (5 * cl + 4) ||| nI 1 <<< (nI x &&& 31))) := by
  obtain ⟨h1, h2, h3, h4, h5⟩ := h
  refine ⟨fun j hj => ?_, ?_, ?_, ?_, fun t ht => ?_⟩
  · rw [hc_im_or (by omega) (by omega), hm_upd_o (by omega), h1 j hj, decide_eq_false (show ¬ j = 9 + x by omega), Bool.or_false]
  · rw [hc_im_or (by omega) (by omega), hm_upd_o (by omega), h2, decide_eq_false (show ¬ 6 = 9 + x by omega), Bool.or_false]
  · rw [hc_im_or (by omega) (by omega), hm_upd_o (by omega), h3, decide_eq_false (show ¬ 7 = 9 + x by omega), Bool.or_false]
  · rw [hc_im_or (by omega) (by omega), hm_upd_o (by omega), h4, decide_eq_false (show ¬ 8 = 9 + x by omega), Bool.or_false]
  · rw [hc_im_or (by omega) (by omega), hc_upd_s, hc_im_or (by omega) (by omega), h5 t ht]
    by_cases h : t = x
    · rw [decide_eq_true h, decide_eq_true (by omega)]
    · rw [decide_eq_false h, decide_eq_false (by omega)]
theorem hc_im_b {it : Int32} {cl b : Nat} {F : Nat → Int32} {v : Int32} (h : hc_im it cl F) (hb : b = 1 ∨ b = 2) (hv : 0 ≤ v) : hc_im (it ||| nI 1 <<< (nI (5 + b) &&& 31)) cl (upd F (5 * cl + b) v) := by
  obtain ⟨h1, h2, h3, h4, h5⟩ := h
  refine ⟨fun j hj => ?_, ?_, ?_, ?_, fun t ht => ?_⟩
  · rw [hc_im_or (by omega) (by omega), hm_upd_o (by omega), h1 j hj, decide_eq_false (show ¬ j = 5 + b by omega), Bool.or_false]
  · rw [hc_im_or (by omega) (by omega)]
    rcases hb with rfl | rfl
    · rw [hc_upd_s, decide_eq_true hv, decide_eq_true rfl, Bool.or_true]
    · rw [hm_upd_o (by omega), h2, decide_eq_false (show ¬ 6 = 5 + 2 by omega), Bool.or_false]
  · rw [hc_im_or (by omega) (by omega)]
    rcases hb with rfl | rfl
    · rw [hm_upd_o (by omega), h3, decide_eq_false (show ¬ 7 = 5 + 1 by omega), Bool.or_false]
    · rw [hc_upd_s, decide_eq_true hv, decide_eq_true rfl, Bool.or_true]
  · rw [hc_im_or (by omega) (by omega), hm_upd_o (by omega), h4, decide_eq_false (show ¬ 8 = 5 + b by omega), Bool.or_false]
  · rw [hc_im_or (by omega) (by omega), hm_upd_o (by omega), h5 t ht, decide_eq_false (show ¬ 9 + t = 5 + b by omega), Bool.or_false]
theorem hc_im_v {it : Int32} {cl b : Nat} {F : Nat → Int32} {v : Int32} (hb : b = 1 ∨ b = 2) (hv : 0 ≤ v) (h : hc_im it cl (upd F (5 * cl + b) (nI 0))) : hc_im it cl (upd F (5 * cl + b) v) := by
  obtain ⟨h1, h2, h3, h4, h5⟩ := h
  have e0 : (0 : Int32) ≤ nI 0 := by decide
  refine ⟨fun j hj => ?_, ?_, ?_, ?_, fun t ht => ?_⟩
  · rw [h1 j hj, hm_upd_o (by omega), hm_upd_o (by omega)]
  · rw [h2]
    rcases hb with rfl | rfl
    · rw [hc_upd_s, hc_upd_s, decide_eq_true hv, decide_eq_true e0]
    · rw [hm_upd_o (by omega), hm_upd_o (by omega)]
  · rw [h3]
    rcases hb with rfl | rfl
    · rw [hm_upd_o (by omega), hm_upd_o (by omega)]
    · rw [hc_upd_s, hc_upd_s, decide_eq_true hv, decide_eq_true e0]
  · rw [h4, hm_upd_o (by omega), hm_upd_o (by omega)]
  · rw [h5 t ht, hm_upd_o (by omega), hm_upd_o (by omega)]
theorem hc_nv_nat {T : Nat → Int32} {N a : Nat} : ∀ n, n ≤ 3 → (∀ i, i < n → hm_fig T N (a + i) = true) → ∃ x, x < 10 ^ n ∧ hm_nv T a n = nI x := by
  intro n
  induction n with
  | zero => intro _ _; exact ⟨0, by decide, rfl⟩
  | succ n ih =>
    intro hn hf
    obtain ⟨x, hx, e⟩ := ih (by omega) (fun i hi => hf i (by omega))
    have hfn := hf n (by omega)
    unfold hm_fig at hfn
    rw [Bool.and_eq_true] at hfn
    have h2 := of_decide_eq_true hfn.2
    obtain ⟨y, hy, ye, -, -⟩ := hm_nIof2 (x := T (a + n)) (N := 58) (by omega) (by omega)
    have hy48 : 48 ≤ y := by
      rw [ye, nI_toInt (by omega)] at h2
      omega
    refine ⟨10 * x + (y - 48), ?_, ?_⟩
    · rw [Nat.pow_succ]; omega
    · show nI 10 * hm_nv T a n + T (a + n) - nI 48 = _
      rw [e, ye, nI_mul, nI_add]
      exact hm_nIsub (by omega)
theorem hc_nf_figs {T : Nat → Int32} {N a n : Nat} (h : hm_nf T N a = n) : ∀ i, i < n → hm_fig T N (a + i) = true := by
  subst h
  unfold hm_nf
  intro i hi
  by_cases h0 : hm_fig T N a = true
  · rw [if_pos h0] at hi
    by_cases h1 : hm_fig T N (a + 1) = true
    · rw [if_pos h1] at hi
      by_cases h2 : hm_fig T N (a + 2) = true
      · rw [if_pos h2] at hi
        by_cases h3 : hm_fig T N (a + 3) = true
        · rw [if_pos h3] at hi
          have hh : i = 0 ∨ i = 1 ∨ i = 2 ∨ i = 3 := by omega
          rcases hh with rfl | rfl | rfl | rfl
          · exact h0
          · exact h1
          · exact h2
          · exact h3
        · rw [if_neg h3] at hi
          have hh : i = 0 ∨ i = 1 ∨ i = 2 := by omega
          rcases hh with rfl | rfl | rfl
          · exact h0
          · exact h1
          · exact h2
      · rw [if_neg h2] at hi
        have hh : i = 0 ∨ i = 1 := by omega
        rcases hh with rfl | rfl
        · exact h0
        · exact h1
    · rw [if_neg h1] at hi
      rw [show i = 0 by omega]
      exact h0
  · rw [if_neg h0] at hi
    omega
theorem hc_nv_pos {T : Nat → Int32} {N a n : Nat} (h : hm_nf T N a = n) (hn : n < 4) : 0 ≤ hm_nv T a n := by
  obtain ⟨x, hx, e⟩ := hc_nv_nat n (by omega) (hc_nf_figs h)
  rw [e]
  have : 10 ^ n ≤ 10 ^ 3 := Nat.pow_le_pow_right (by decide) (by omega)
  exact nI_pos' (by omega)
def hc_kb (k : hm_M) (b x : Nat) : hm_M := hm_uM (hm_uM (hm_uM (hm_uM k 51 (fun _ => k 51 0 ||| nI 1 <<< (nI x &&& 31))) 49 (fun _ => nI b)) 47 (fun _ => k 47 0 + nI 1)) 46 (fun _ => nI 3)
theorem hc_kb_hi {k : hm_M} {b x f : Nat} (hf : 60 ≤ f) : hc_kb k b x f = k f := (if_neg (by omega)).trans ((if_neg (by omega)).trans ((if_neg (by omega)).trans (if_neg (by omega))))
theorem hc_kb_rs (k : hm_M) (q b x : Nat) : hc_rs q k (hc_kb k b x) := fun j h1 h2 h3 => (if_neg (by omega)).trans ((if_neg (by omega)).trans ((if_neg (by omega)).trans (if_neg (by omega))))
theorem hc_J_bound {k : hm_M} {q a cl bd b x : Nat} {seen : Int32} {F : Nat → Int32} (J : hc_J k q a 2 cl bd seen F) (hb : b = 1 ∨ b = 2) (hx : 5 + b = x) : hc_J (hc_kb k b x) q (a + 1) 3 cl b seen F := by
  obtain ⟨⟨j1, j2, j3, j4⟩, j5, j6, j7, j8, j9⟩ := J
  obtain ⟨j71, j72, j73, j74⟩ := j7 (by decide)
  refine ⟨⟨?_, rfl, by decide, j4⟩, fun t ht i hi => ?_, j6, fun _ => ⟨j71, j72, j73, j74⟩, fun h => absurd h (by decide), fun _ => ⟨rfl, hb, ?_⟩⟩
  · show k 47 0 + nI 1 = _
    rw [j1, nI_add]
  · rw [hc_kb_hi (by omega)]
    exact j5 t ht i hi
  · subst hx
    exact hc_im_b (j8 (Or.inr rfl)) hb (show (0 : Int32) ≤ nI 0 by decide)
def hc_kg (k : hm_M) (nx : Nat) : hm_M := hm_uM (hm_uM k 47 (fun _ => k 47 0 + nI 1)) 46 (fun _ => nI nx)
theorem hc_kg_hi {k : hm_M} {nx f : Nat} (hf : 60 ≤ f) : hc_kg k nx f = k f := (if_neg (by omega)).trans (if_neg (by omega))
theorem hc_kg_rs {k : hm_M} {q nx : Nat} : hc_rs q k (hc_kg k nx) := fun j h1 h2 h3 => (if_neg (by omega)).trans (if_neg (by omega))
theorem hc_J_go {k : hm_M} {q a aw nx cl bd : Nat} {seen : Int32} {F : Nat → Int32} (J : hc_J k q a aw cl bd seen F) (hx : (aw = 1 ∧ nx = 2) ∨ (aw = 2 ∧ nx = 0)) : hc_J (hc_kg k nx) q (a + 1) nx cl bd seen F := by
  obtain ⟨⟨j1, j2, j3, j4⟩, j5, j6, j7, j8, j9⟩ := J
  refine ⟨⟨?_, rfl, by omega, j4⟩, fun t ht i hi => ?_, j6, fun h => j7 (by omega), fun h => j8 (by omega), fun h => absurd h (by omega)⟩
  · show k 47 0 + nI 1 = _
    rw [j1, nI_add]
  · rw [hc_kg_hi (by omega)]
    exact j5 t ht i hi
theorem hc_J_skip {k : hm_M} {q a aw cl bd : Nat} {seen : Int32} {F : Nat → Int32} (J : hc_J k q a aw cl bd seen F) : hc_J (hm_uM k 47 (fun _ => k 47 0 + nI 1)) q (a + 1) aw cl bd seen F := by
  obtain ⟨⟨j1, j2, j3, j4⟩, j5, j6, j7, j8, j9⟩ := J
  refine ⟨⟨?_, j2, j3, j4⟩, fun t ht i hi => ?_, j6, j7, j8, j9⟩
  · show k 47 0 + nI 1 = _
    rw [j1, nI_add]
  · rw [show hm_uM k 47 (fun _ => k 47 0 + nI 1) (60 + 4 * q + t) = k (60 + 4 * q + t) from if_neg (by omega)]
    exact j5 t ht i hi
