/-! THE TEXT OF A LAW, read: one automaton for the class and the Model -/
abbrev hm_PR : Type := Int32 × Int32 × (Nat → Int32)
def hm_fig (T : Nat → Int32) (N i : Nat) : Bool := decide (i < N) && decide (48 ≤ (T i).toInt ∧ (T i).toInt ≤ 57)
def hm_nf (T : Nat → Int32) (N a : Nat) : Nat := if hm_fig T N a = true then (if hm_fig T N (a + 1) = true then (if hm_fig T N (a + 2) = true then (if hm_fig T N (a + 3) = true then 4 else 3) else 2) else 1) else 0
def hm_nv (T : Nat → Int32) (a : Nat) : Nat → Int32
  | 0 => nI 0
  | n + 1 => nI 10 * hm_nv T a n + T (a + n) - nI 48
def hm_has (x k : Int32) : Bool := decide (x >>> (k &&& 31) &&& nI 1 = nI 1)
def hm_bd (c : Int32) : Nat := if c = nI 60 then 1 else 2
/-- an item's byte: a fault, what is kept, or a bound whose number comes -/
def hm_it (c : Int32) (cl : Nat) (F : Nat → Int32) : Nat ⊕ ((Nat → Int32) ⊕ Nat) :=
  if 65 ≤ c.toInt ∧ c.toInt ≤ 70 then (if hm_has (F (5 * cl)) (c - nI 65) = true then .inl 4 else .inr (.inl (upd F (5 * cl) (F (5 * cl) ||| nI 1 <<< ((c - nI 65) &&& 31)))))
  else if c = nI 60 ∨ c = nI 62 then (if F (5 * cl + hm_bd c) < 0 then .inr (.inr (hm_bd c)) else .inl 4)
  else if c = nI 33 then (if F (5 * cl + 3) = nI 1 then .inl 4 else .inr (.inl (upd F (5 * cl + 3) (nI 1))))
  else if hm_so c < 0 then .inl 1
  else if hm_so c = nI cl then .inl 5
  else if hm_has (F (5 * cl + 4)) (hm_so c) = true then .inl 4 else .inr (.inl (upd F (5 * cl + 4) (F (5 * cl + 4) ||| nI 1 <<< (hm_so c &&& 31))))
def hm_ab (T : Nat → Int32) (N : Nat) (rec : Nat → Nat → Nat → Nat → Int32 → (Nat → Int32) → hm_PR) (a aw cl bd : Nat) (seen : Int32) (F : Nat → Int32) : hm_PR :=
  if a < N then
    if T a = nI 32 then rec (a + 1) aw cl bd seen F
    else if aw = 0 then (if hm_so (T a) < 0 then (nI 1, nI a, F) else if hm_has seen (hm_so (T a)) = true then (nI 3, nI a, F) else rec (a + 1) 1 (hm_so (T a)).toNatClampNeg bd (seen ||| nI 1 <<< (hm_so (T a) &&& 31)) F)
    else if aw = 1 then (if T a = nI 58 then rec (a + 1) 2 cl bd seen F else (nI 1, nI a, F))
    else if aw = 2 then (if T a = nI 59 then rec (a + 1) 0 cl bd seen F else match hm_it (T a) cl F with
      | .inl f => (nI f, nI a, F)
      | .inr (.inl F2) => rec (a + 1) 2 cl bd seen F2
      | .inr (.inr b) => rec (a + 1) 3 cl b seen F)
    else if hm_nf T N a = 0 then (nI 1, nI a, F) else if hm_nf T N a = 4 then (nI 2, nI a, F) else rec (a + hm_nf T N a) 2 cl bd seen (upd F (5 * cl + bd) (hm_nv T a (hm_nf T N a)))
  else if aw = 0 then (nI 0, -1, F) else (nI 1, nI N, F)
def hm_au (T : Nat → Int32) (N : Nat) : Nat → Nat → Nat → Nat → Nat → Int32 → (Nat → Int32) → hm_PR
  | 0, _, aw, _, _, _, F => if aw = 0 then (nI 0, -1, F) else (nI 1, nI N, F)
  | k + 1, a, aw, cl, bd, seen, F => hm_ab T N (hm_au T N k) a aw cl bd seen F
theorem hm_ab_c {T : Nat → Int32} {N : Nat} {r1 r2 : Nat → Nat → Nat → Nat → Int32 → (Nat → Int32) → hm_PR} {a : Nat} (h : ∀ i aw cl bd seen F, 0 < i → r1 (a + i) aw cl bd seen F = r2 (a + i) aw cl bd seen F) (aw cl bd : Nat) (seen : Int32) (F : Nat → Int32) : hm_ab T N r1 a aw cl bd seen F = hm_ab T N r2 a aw cl bd seen F := by
  unfold hm_ab
  by_cases h1 : a < N
  rotate_left
  · rw [if_neg h1, if_neg h1]
  rw [if_pos h1, if_pos h1]
  by_cases h2 : T a = nI 32
  · rw [if_pos h2, if_pos h2]
    exact h 1 _ _ _ _ _ (by decide)
  rw [if_neg h2, if_neg h2, h 1 1 _ _ _ _ (by decide), h 1 2 _ _ _ F (by decide), h 1 0 _ _ _ _ (by decide)]
  by_cases h3 : hm_nf T N a = 0
  · rw [if_pos h3, if_pos h3]
    cases hm_it (T a) cl F with
    | inl f => rfl
    | inr x =>
      cases x with
      | inl F2 => dsimp only; rw [h 1 2 _ _ _ F2 (by decide)]
      | inr b => dsimp only; rw [h 1 3 _ b _ F (by decide)]
  · rw [if_neg h3, if_neg h3, h (hm_nf T N a) 2 _ _ _ _ (by omega)]
    cases hm_it (T a) cl F with
    | inl f => rfl
    | inr x =>
      cases x with
      | inl F2 => dsimp only; rw [h 1 2 _ _ _ F2 (by decide)]
      | inr b => dsimp only; rw [h 1 3 _ b _ F (by decide)]
theorem hm_ab_end {T : Nat → Int32} {N : Nat} {r1 : Nat → Nat → Nat → Nat → Int32 → (Nat → Int32) → hm_PR} {a : Nat} (ha : N ≤ a) (aw cl bd : Nat) (seen : Int32) (F : Nat → Int32) : hm_ab T N r1 a aw cl bd seen F = if aw = 0 then (nI 0, -1, F) else (nI 1, nI N, F) := by
  unfold hm_ab
  rw [if_neg (by omega)]
theorem hm_au_up {T : Nat → Int32} {N : Nat} : ∀ (k a : Nat), N - a ≤ k → ∀ (aw cl bd : Nat) (seen : Int32) (F : Nat → Int32), hm_au T N (k + 1) a aw cl bd seen F = hm_au T N k a aw cl bd seen F := by
  intro k
  induction k with
  | zero =>
    intro a ha aw cl bd seen F
    exact hm_ab_end (by omega) _ _ _ _ _
  | succ k ih =>
    intro a ha aw cl bd seen F
    exact hm_ab_c (fun i aw cl bd seen F hi => ih (a + i) (by omega) aw cl bd seen F) aw cl bd seen F
theorem hm_au_ge {T : Nat → Int32} {N a : Nat} (k : Nat) (ha : N - a ≤ k) (aw cl bd : Nat) (seen : Int32) (F : Nat → Int32) : hm_au T N k a aw cl bd seen F = hm_au T N (N - a) a aw cl bd seen F := by
  obtain ⟨j, rfl⟩ := Nat.exists_eq_add_of_le ha
  induction j with
  | zero => rfl
  | succ j ih => exact (hm_au_up (N - a + j) a (by omega) aw cl bd seen F).trans (ih (by omega))
def hm_A (T : Nat → Int32) (N a aw cl bd : Nat) (seen : Int32) (F : Nat → Int32) : hm_PR := hm_au T N (N - a) a aw cl bd seen F
theorem hm_A_eq {T : Nat → Int32} {N a : Nat} (aw cl bd : Nat) (seen : Int32) (F : Nat → Int32) : hm_A T N a aw cl bd seen F = hm_ab T N (hm_A T N) a aw cl bd seen F := by
  by_cases h : a < N
  · unfold hm_A
    rw [show N - a = (N - a - 1) + 1 by omega]
    exact hm_ab_c (fun i aw cl bd seen F hi => hm_au_ge (N - a - 1) (by omega) aw cl bd seen F) aw cl bd seen F
  · rw [hm_ab_end (by omega)]
    unfold hm_A
    rw [show N - a = 0 by omega]
    rfl
def hm_sk (T : Nat → Int32) (N : Nat) : Nat → Nat → Nat
  | 0, a => a
  | k + 1, a => if a < N ∧ T a = nI 32 then hm_sk T N k (a + 1) else a
def hm_c (T : Nat → Int32) (N a : Nat) : Int32 := if a < N then T a else -1
theorem hm_sk_up {T : Nat → Int32} {N : Nat} : ∀ (k a : Nat), N - a ≤ k → hm_sk T N (k + 1) a = hm_sk T N k a := by
  intro k
  induction k with
  | zero =>
    intro a ha
    exact if_neg (fun z => by omega)
  | succ k ih =>
    intro a ha
    show (if a < N ∧ T a = nI 32 then hm_sk T N (k + 1) (a + 1) else a) = (if a < N ∧ T a = nI 32 then hm_sk T N k (a + 1) else a)
    rw [ih (a + 1) (by omega)]
def hm_skp (T : Nat → Int32) (N a : Nat) : Nat := hm_sk T N (N - a) a
theorem hm_skp_y {T : Nat → Int32} {N a : Nat} (h : a < N) (hb : T a = nI 32) : hm_skp T N a = hm_skp T N (a + 1) := by
  unfold hm_skp
  rw [show N - a = (N - (a + 1)) + 1 by omega]
  exact if_pos ⟨h, hb⟩
theorem hm_skp_n {T : Nat → Int32} {N a : Nat} (h : ¬ (a < N ∧ T a = nI 32)) : hm_skp T N a = a := by
  unfold hm_skp
  cases N - a with
  | zero => rfl
  | succ k => exact if_neg h
theorem hm_skp_f {T : Nat → Int32} {N : Nat} : ∀ (k a : Nat), N - a = k → a ≤ hm_skp T N a ∧ (a ≤ N → hm_skp T N a ≤ N) ∧ ¬ (hm_skp T N a < N ∧ T (hm_skp T N a) = nI 32) ∧ ∀ (aw cl bd : Nat) (seen : Int32) (F : Nat → Int32), hm_A T N a aw cl bd seen F = hm_A T N (hm_skp T N a) aw cl bd seen F := by
  intro k
  induction k with
  | zero =>
    intro a ha
    rw [hm_skp_n (fun z => by omega)]
    exact ⟨Nat.le_refl _, id, fun z => by omega, fun _ _ _ _ _ => rfl⟩
  | succ k ih =>
    intro a ha
    by_cases hc : a < N ∧ T a = nI 32
    · obtain ⟨e1, e2, e3, e4⟩ := ih (a + 1) (by omega)
      rw [hm_skp_y hc.1 hc.2]
      refine ⟨by omega, fun _ => e2 (by omega), e3, fun aw cl bd seen F => ?_⟩
      rw [← e4, hm_A_eq]
      unfold hm_ab
      rw [if_pos hc.1, if_pos hc.2]
    · rw [hm_skp_n hc]
      exact ⟨Nat.le_refl _, id, hc, fun _ _ _ _ _ => rfl⟩
theorem hm_skp_ge {T : Nat → Int32} {N a : Nat} : a ≤ hm_skp T N a := (hm_skp_f _ a rfl).1
theorem hm_skp_le {T : Nat → Int32} {N a : Nat} (h : a ≤ N) : hm_skp T N a ≤ N := (hm_skp_f _ a rfl).2.1 h
theorem hm_skp_b {T : Nat → Int32} {N a : Nat} : ¬ (hm_skp T N a < N ∧ T (hm_skp T N a) = nI 32) := (hm_skp_f _ a rfl).2.2.1
theorem hm_A_skp {T : Nat → Int32} {N a aw cl bd : Nat} {seen : Int32} {F : Nat → Int32} : hm_A T N a aw cl bd seen F = hm_A T N (hm_skp T N a) aw cl bd seen F := (hm_skp_f _ a rfl).2.2.2 aw cl bd seen F
theorem hm_skp_i {T : Nat → Int32} {N a : Nat} : hm_skp T N (hm_skp T N a) = hm_skp T N a := hm_skp_n hm_skp_b
/-- the Model's state while it reads: the place, the fresh law -/
def hm_pa (m : hm_M) (a : Nat) (F : Nat → Int32) : hm_M := hm_uM (hm_uM m 24 (fun _ => nI a)) 5 F
theorem hm_pa_24 {m : hm_M} {a : Nat} {F : Nat → Int32} : hm_uM (hm_pa m a F) 24 (fun _ => nI a + nI 1) = hm_pa m (a + 1) F := by
  funext j
  show (if j = 24 then (fun _ => nI a + nI 1) else if j = 5 then F else if j = 24 then (fun _ => nI a) else m j) = (if j = 5 then F else if j = 24 then (fun _ => nI (a + 1)) else m j)
  by_cases h1 : j = 24
  · subst h1
    rw [if_pos rfl, if_neg (by decide), if_pos rfl, nI_add]
  · simp only [h1, ↓reduceIte]
theorem hm_pa_5 {m : hm_M} {a : Nat} {F G : Nat → Int32} : hm_uM (hm_pa m a F) 5 G = hm_pa m a G := by
  unfold hm_pa
  rw [hm_uM2]
set_option maxRecDepth 20000 in
theorem l_131 {d n s : Nat} {m : hm_M} {h : Nat → Option va_E} {Q : Option Value → hm_H → Prop} {N : Nat} (hN : m 7 0 = nI N) (hN1 : N ≤ 100) {F : Nat → Int32} : ∀ (k a : Nat), a ≤ N → N - a = k → Q (some (.int (hm_c (m 6) N (hm_skp (m 6) N a)))) (hm_hM (hm_pa m (hm_skp (m 6) N a) F) h n s) → hm_T d 131 0 [.ref 61] [] (hm_hM (hm_pa m a F) h n s) Q := by
  intro k
  induction k with
  | zero =>
    intro a ha hk hQ
    refine r_aload_n k_131_0 rfl ?_
    refine r_get m_131 k_131_1 fl_8_132 rfl rfl ?_
    rw [show hm_pa m (a) (F) 24 0 = nI (a) from rfl]
    refine r_aload_n k_131_4 rfl ?_
    refine r_get m_131 k_131_5 fl_8_127 rfl rfl ?_
    rw [show hm_pa m (a) (F) 7 0 = nI N from hN]
    refine r_icmp_ge k_131_8 rfl (fun c_8 => ?_) (fun z => absurd (nI_le (show N ≤ a by omega) (by omega)) z)
    refine r_aload_n k_131_38 rfl ?_
    refine r_get m_131 k_131_39 fl_8_132 rfl rfl ?_
    rw [show hm_pa m (a) (F) 24 0 = nI (a) from rfl]
    refine r_aload_n k_131_42 rfl ?_
    refine r_get m_131 k_131_43 fl_8_127 rfl rfl ?_
    rw [show hm_pa m (a) (F) 7 0 = nI N from hN]
    refine r_icmp_ge k_131_46 rfl (fun c_46 => ?_) (fun z => absurd (nI_le (show N ≤ a by omega) (by omega)) z)
    refine r_iconst k_131_61 ci_m1 ?_
    exact hm_T.ret m_131 k_131_62 rfl (by rw [hm_skp_n (fun z => by omega)] at hQ; unfold hm_c at hQ; rw [if_neg (by omega)] at hQ; exact hQ)
  | succ k ih =>
    intro a ha hk hQ
    refine r_aload_n k_131_0 rfl ?_
    refine r_get m_131 k_131_1 fl_8_132 rfl rfl ?_
    rw [show hm_pa m (a) (F) 24 0 = nI (a) from rfl]
    refine r_aload_n k_131_4 rfl ?_
    refine r_get m_131 k_131_5 fl_8_127 rfl rfl ?_
    rw [show hm_pa m (a) (F) 7 0 = nI N from hN]
    refine r_icmp_ge k_131_8 rfl (fun z => absurd z (nI_ge (show a < N by omega) (by omega))) (fun c_8 => ?_)
    refine r_aload_n k_131_11 rfl ?_
    refine r_get m_131 k_131_12 fl_8_25 rfl rfl ?_
    refine r_aload_n k_131_15 rfl ?_
    refine r_get m_131 k_131_16 fl_8_132 rfl rfl ?_
    rw [show hm_pa m (a) (F) 24 0 = nI (a) from rfl]
    refine r_ialdn (k := a) k_131_19 rfl (Or.inl rfl) rfl (by omega) (by decide) ?_
    refine r_bipush k_131_20 cb_32 ?_
    refine r_icmp_ne k_131_22 rfl (fun c_22 => ?_) (fun c_22 => ?_)
    · refine r_aload_n k_131_38 rfl ?_
      refine r_get m_131 k_131_39 fl_8_132 rfl rfl ?_
      rw [show hm_pa m (a) (F) 24 0 = nI (a) from rfl]
      refine r_aload_n k_131_42 rfl ?_
      refine r_get m_131 k_131_43 fl_8_127 rfl rfl ?_
      rw [show hm_pa m (a) (F) 7 0 = nI N from hN]
      refine r_icmp_ge k_131_46 rfl (fun z => absurd z (nI_ge (show a < N by omega) (by omega))) (fun c_46 => ?_)
      refine r_aload_n k_131_49 rfl ?_
      refine r_get m_131 k_131_50 fl_8_25 rfl rfl ?_
      refine r_aload_n k_131_53 rfl ?_
      refine r_get m_131 k_131_54 fl_8_132 rfl rfl ?_
      rw [show hm_pa m (a) (F) 24 0 = nI (a) from rfl]
      refine r_ialdn (k := a) k_131_57 rfl (Or.inl rfl) rfl (by omega) (by decide) ?_
      refine r_goto k_131_58 rfl ?_
      exact hm_T.ret m_131 k_131_62 rfl (by rw [hm_skp_n (T := m 6) (N := N) (a := a) (fun z => c_22 z.2)] at hQ; unfold hm_c at hQ; rw [if_pos (by omega)] at hQ; exact hQ)
    · have c_22 := Decidable.of_not_not c_22
      refine r_aload_n k_131_25 rfl ?_
      refine r_dup k_131_26 rfl ?_
      refine r_get m_131 k_131_27 fl_8_132 rfl rfl ?_
      rw [show hm_pa m (a) (F) 24 0 = nI (a) from rfl]
      refine r_iconst k_131_30 ci_1 ?_
      refine r_iadd k_131_31 ?_
      refine r_put m_131 k_131_32 fl_8_132 rfl (Nat.le_of_ble_eq_true rfl) rfl rfl ((wM_24 _).trans (by rw [hm_pa_24])) ?_
      refine r_goto k_131_35 rfl ?_
      refine ih (a + 1) (by omega) (by omega) ?_
      rw [hm_skp_y (show a < N by omega) (show m 6 a = nI 32 from c_22)] at hQ
      exact hQ
set_option maxRecDepth 20000 in
theorem s_131 {d n s : Nat} {m : hm_M} {h : Nat → Option va_E} {Q : Option Value → hm_H → Prop} {N : Nat} (hN : m 7 0 = nI N) (hN1 : N ≤ 100) {F : Nat → Int32} {a : Nat} (ha : a ≤ N) (hQ : Q (some (.int (hm_c (m 6) N (hm_skp (m 6) N a)))) (hm_hM (hm_pa m (hm_skp (m 6) N a) F) h n s)) : hm_T d 131 0 [.ref 61] [] (hm_hM (hm_pa m a F) h n s) Q := by
  exact l_131 hN hN1 (N - a) a ha rfl hQ
theorem hm_nf_j {T : Nat → Int32} {N a j : Nat} (hj : ∀ i, i < j → hm_fig T N (a + i) = true) (he : hm_fig T N (a + j) = false) : (j ≤ 3 → hm_nf T N a = j) ∧ (3 < j → hm_nf T N a = 4) := by
  have h : j = 0 ∨ j = 1 ∨ j = 2 ∨ j = 3 ∨ 3 < j := by omega
  unfold hm_nf
  rcases h with rfl | rfl | rfl | rfl | h
  · exact ⟨fun _ => by rw [if_neg (by rw [show a = a + 0 from rfl, he]; decide)], fun z => by omega⟩
  · exact ⟨fun _ => by rw [if_pos (show hm_fig T N a = true from hj 0 (by decide)), if_neg (by rw [he]; decide)], fun z => by omega⟩
  · exact ⟨fun _ => by rw [if_pos (show hm_fig T N a = true from hj 0 (by decide)), if_pos (hj 1 (by decide)), if_neg (by rw [he]; decide)], fun z => by omega⟩
  · exact ⟨fun _ => by rw [if_pos (show hm_fig T N a = true from hj 0 (by decide)), if_pos (hj 1 (by decide)), if_pos (hj 2 (by decide)), if_neg (by rw [he]; decide)], fun z => by omega⟩
  · exact ⟨fun z => by omega, fun _ => by rw [if_pos (show hm_fig T N a = true from hj 0 (by omega)), if_pos (hj 1 (by omega)), if_pos (hj 2 (by omega)), if_pos (hj 3 (by omega))]⟩
theorem hm_figc {T : Nat → Int32} {N a : Nat} : hm_fig T N a = decide (48 ≤ (hm_c T N a).toInt ∧ (hm_c T N a).toInt ≤ 57) := by
  unfold hm_fig hm_c
  by_cases h : a < N
  · rw [if_pos h, decide_eq_true h]; rfl
  · rw [if_neg h, decide_eq_false h]
    rfl
theorem hm_figy {T : Nat → Int32} {N a : Nat} (h : a < N) (h2 : 48 ≤ (T a).toInt ∧ (T a).toInt ≤ 57) : hm_fig T N a = true := by
  unfold hm_fig
  rw [decide_eq_true h, decide_eq_true h2]
  rfl
theorem hm_fign {T : Nat → Int32} {N a : Nat} (h : ¬ (48 ≤ (T a).toInt ∧ (T a).toInt ≤ 57)) : hm_fig T N a = false := by
  unfold hm_fig
  rw [decide_eq_false h, Bool.and_false]
theorem hm_figo {T : Nat → Int32} {N a : Nat} (h : N ≤ a) : hm_fig T N a = false := by
  unfold hm_fig
  rw [decide_eq_false (by omega)]
  rfl
theorem hm_nIsub {a b c : Nat} (h : a + b = c) : nI c - nI a = nI b := by
  rw [← h, ← nI_add, Int32.add_comm, Int32.add_sub_cancel]
set_option maxRecDepth 20000 in
theorem l_135 {d n s : Nat} {m : hm_M} {h : Nat → Option va_E} {Q : Option Value → hm_H → Prop} {N : Nat} (hN : m 7 0 = nI N) (hN1 : N ≤ 100) {F : Nat → Int32} {pl b : Nat} {c : Int32} (hpl : pl < 20) (hb : b < N) (hb0 : hm_fig (m 6) N b = true) (h4 : hm_nf (m 6) N b = 4 → ∀ a2, Q (some (.int (nI 2))) (hm_hM (hm_uM (hm_pa m a2 F) 8 (fun _ => nI b)) h n s)) (h1 : ∀ k, hm_nf (m 6) N b = k → 0 < k → k < 4 → Q (some (.int (nI 0))) (hm_hM (hm_pa m (b + k) (upd F pl (hm_nv (m 6) b k))) h n s)) : ∀ (k j : Nat) (v : Int32), N - (b + j) = k → b + j ≤ N → (0 < j ∨ j = 0) → (∀ i, i < j → hm_fig (m 6) N (b + i) = true) → (j ≤ 3 → v = hm_nv (m 6) b j) → hm_T (d + 1) 135 37 [.ref 61, .int (nI pl), .int c, .int (nI b), .int v] [] (hm_hM (hm_pa m (b + j) F) h n s) Q := by
  intro k
  induction k with
  | zero =>
    intro j v hk hle hj0 hj hv
    have hj0 : 0 < j := by omega
    refine r_aload_n k_135_37 rfl ?_
    refine r_get m_135 k_135_38 fl_8_132 rfl rfl ?_
    rw [show hm_pa m (b + j) (F) 24 0 = nI (b + j) from rfl]
    refine r_aload_n k_135_41 rfl ?_
    refine r_get m_135 k_135_42 fl_8_127 rfl rfl ?_
    rw [show hm_pa m (b + j) (F) 7 0 = nI N from hN]
    refine r_icmp_ge k_135_45 rfl (fun c_45 => ?_) (fun z => absurd (nI_le (show N ≤ b + j by omega) (by omega)) z)
    refine r_aload_n k_135_118 rfl ?_
    refine r_get m_135 k_135_119 fl_8_132 rfl rfl ?_
    rw [show hm_pa m (b + j) (F) 24 0 = nI (b + j) from rfl]
    refine r_iload_n k_135_122 rfl ?_
    refine r_isub k_135_123 ?_
    have hnf := hm_nf_j hj (hm_figo (by omega))
    rw [hm_nIsub (rfl : b + j = b + j)]
    by_cases hj3 : j ≤ 3
    · refine r_iconst k_135_124 ci_3 ?_
      refine r_icmp_le k_135_125 rfl (fun c_125 => ?_) (fun z => absurd (nI_le hj3 (by omega)) z)
      have e := h1 j (hnf.1 hj3) hj0 (by omega)
      rw [hv hj3]
      refine r_aload_n k_135_135 rfl ?_
      refine r_get m_135 k_135_136 fl_8_22 rfl rfl ?_
      refine r_iload_n k_135_139 rfl ?_
      refine r_iload k_135_140 rfl ?_
      refine r_iastn (k := pl) k_135_142 rfl rfl rfl (by omega) (by decide) ((wM_5 _).trans (by rw [hm_pa_5])) ?_
      refine r_iconst k_135_143 ci_0 ?_
      exact hm_T.ret m_135 k_135_144 rfl e
    · refine r_iconst k_135_124 ci_3 ?_
      refine r_icmp_le k_135_125 rfl (fun z => absurd z (nI_ge (by omega) (by omega))) (fun c_125 => ?_)
      have e := h4 (hnf.2 (by omega)) (b + j)
      refine r_aload_n k_135_128 rfl ?_
      refine r_iconst k_135_129 ci_2 ?_
      refine r_iload_n k_135_130 rfl ?_
      refine r_callv3 m_135 k_135_131 cl_8_143 m_133 (by decide) rfl rfl (Nat.le_of_ble_eq_true rfl) (Nat.le_of_ble_eq_true rfl) rfl rfl ?_
      refine s_133 ?_
      exact hm_T.ret m_135 k_135_134 rfl e
  | succ k ih =>
    intro j v hk hle hj0 hj hv
    refine r_aload_n k_135_37 rfl ?_
    refine r_get m_135 k_135_38 fl_8_132 rfl rfl ?_
    rw [show hm_pa m (b + j) (F) 24 0 = nI (b + j) from rfl]
    refine r_aload_n k_135_41 rfl ?_
    refine r_get m_135 k_135_42 fl_8_127 rfl rfl ?_
    rw [show hm_pa m (b + j) (F) 7 0 = nI N from hN]
    refine r_icmp_ge k_135_45 rfl (fun z => absurd z (nI_ge (show b + j < N by omega) (by omega))) (fun c_45 => ?_)
    refine r_aload_n k_135_48 rfl ?_
    refine r_get m_135 k_135_49 fl_8_25 rfl rfl ?_
    refine r_aload_n k_135_52 rfl ?_
    refine r_get m_135 k_135_53 fl_8_132 rfl rfl ?_
    rw [show hm_pa m (b + j) (F) 24 0 = nI (b + j) from rfl]
    refine r_ialdn (k := b + j) k_135_56 rfl (Or.inl rfl) rfl (by omega) (by decide) ?_
    rw [show hm_pa m (b + j) F 6 (b + j) = m 6 (b + j) from rfl]
    refine r_i2l k_135_57 ?_
    refine r_ldc2_w m_135 k_135_58 ll_8_139 ?_
    refine r_ldc2_w m_135 k_135_61 ll_8_141 ?_
    refine r_calls3 m_135 k_135_64 cl_8_84 m_119 (by decide) rfl rfl (Nat.le_of_ble_eq_true rfl) (Nat.le_of_ble_eq_true rfl) ?_
    refine s_119 ?_
    rw [hm_ifc (hm_rngE2 (m 6 (b + j)) (a := 48) (b := 57) (lo := 48) (hi := 57) (by decide +kernel) (by decide +kernel))]
    refine r_if_eq k_135_67 rfl (fun c_67 => ?_) (fun c_67 => ?_)
    · have c_67 := hm_if0 c_67
      refine r_aload_n k_135_118 rfl ?_
      refine r_get m_135 k_135_119 fl_8_132 rfl rfl ?_
      rw [show hm_pa m (b + j) (F) 24 0 = nI (b + j) from rfl]
      refine r_iload_n k_135_122 rfl ?_
      refine r_isub k_135_123 ?_
      have hj0 : 0 < j := by
        rcases Nat.eq_zero_or_pos j with h | h
        · subst h
          rw [show b = b + 0 from rfl, hm_fign c_67] at hb0
          cases hb0
        · exact h
      have hnf := hm_nf_j hj (hm_fign c_67)
      rw [hm_nIsub (rfl : b + j = b + j)]
      by_cases hj3 : j ≤ 3
      · refine r_iconst k_135_124 ci_3 ?_
        refine r_icmp_le k_135_125 rfl (fun c_125 => ?_) (fun z => absurd (nI_le hj3 (by omega)) z)
        have e := h1 j (hnf.1 hj3) hj0 (by omega)
        rw [hv hj3]
        refine r_aload_n k_135_135 rfl ?_
        refine r_get m_135 k_135_136 fl_8_22 rfl rfl ?_
        refine r_iload_n k_135_139 rfl ?_
        refine r_iload k_135_140 rfl ?_
        refine r_iastn (k := pl) k_135_142 rfl rfl rfl (by omega) (by decide) ((wM_5 _).trans (by rw [hm_pa_5])) ?_
        refine r_iconst k_135_143 ci_0 ?_
        exact hm_T.ret m_135 k_135_144 rfl e
      · refine r_iconst k_135_124 ci_3 ?_
        refine r_icmp_le k_135_125 rfl (fun z => absurd z (nI_ge (by omega) (by omega))) (fun c_125 => ?_)
        have e := h4 (hnf.2 (by omega)) (b + j)
        refine r_aload_n k_135_128 rfl ?_
        refine r_iconst k_135_129 ci_2 ?_
        refine r_iload_n k_135_130 rfl ?_
        refine r_callv3 m_135 k_135_131 cl_8_143 m_133 (by decide) rfl rfl (Nat.le_of_ble_eq_true rfl) (Nat.le_of_ble_eq_true rfl) rfl rfl ?_
        refine s_133 ?_
        exact hm_T.ret m_135 k_135_134 rfl e
    · have c_67 := hm_if1 c_67
      refine r_aload_n k_135_70 rfl ?_
      refine r_get m_135 k_135_71 fl_8_132 rfl rfl ?_
      rw [show hm_pa m (b + j) (F) 24 0 = nI (b + j) from rfl]
      refine r_iload_n k_135_74 rfl ?_
      refine r_isub k_135_75 ?_
      rw [hm_nIsub (rfl : b + j = b + j)]
      refine r_iconst k_135_76 ci_3 ?_
      refine r_icmp_ge k_135_77 rfl (fun c_77 => ?_) (fun c_77 => ?_)
      · refine r_iload k_135_101 rfl ?_
        refine r_istore k_135_103 rfl ?_
        refine r_aload_n k_135_105 rfl ?_
        refine r_dup k_135_106 rfl ?_
        refine r_get m_135 k_135_107 fl_8_132 rfl rfl ?_
        rw [show hm_pa m (b + j) (F) 24 0 = nI (b + j) from rfl]
        refine r_iconst k_135_110 ci_1 ?_
        refine r_iadd k_135_111 ?_
        refine r_put m_135 k_135_112 fl_8_132 rfl (Nat.le_of_ble_eq_true rfl) rfl rfl ((wM_24 _).trans (by rw [hm_pa_24])) ?_
        refine r_goto k_135_115 rfl ?_
        have hj3 : 3 ≤ j := by
          rcases Nat.lt_or_ge j 3 with h | h
          · exact absurd c_77 (nI_ge h (by omega))
          · exact h
        refine ih (j + 1) v (by omega) (by omega) (by omega) (fun i hi => ?_) (fun z => by omega)
        rcases Nat.lt_or_ge i j with h | h
        · exact hj i h
        · rw [show i = j by omega]
          exact hm_figy (by omega) c_67
      · refine r_bipush k_135_80 cb_10 ?_
        refine r_iload k_135_82 rfl ?_
        refine r_imul k_135_84 ?_
        refine r_aload_n k_135_85 rfl ?_
        refine r_get m_135 k_135_86 fl_8_25 rfl rfl ?_
        refine r_aload_n k_135_89 rfl ?_
        refine r_get m_135 k_135_90 fl_8_132 rfl rfl ?_
        rw [show hm_pa m (b + j) (F) 24 0 = nI (b + j) from rfl]
        refine r_ialdn (k := b + j) k_135_93 rfl (Or.inl rfl) rfl (by omega) (by decide) ?_
        rw [show hm_pa m (b + j) F 6 (b + j) = m 6 (b + j) from rfl]
        refine r_iadd k_135_94 ?_
        refine r_bipush k_135_95 cb_48 ?_
        refine r_isub k_135_97 ?_
        refine r_goto k_135_98 rfl ?_
        refine r_istore k_135_103 rfl ?_
        refine r_aload_n k_135_105 rfl ?_
        refine r_dup k_135_106 rfl ?_
        refine r_get m_135 k_135_107 fl_8_132 rfl rfl ?_
        rw [show hm_pa m (b + j) (F) 24 0 = nI (b + j) from rfl]
        refine r_iconst k_135_110 ci_1 ?_
        refine r_iadd k_135_111 ?_
        refine r_put m_135 k_135_112 fl_8_132 rfl (Nat.le_of_ble_eq_true rfl) rfl rfl ((wM_24 _).trans (by rw [hm_pa_24])) ?_
        refine r_goto k_135_115 rfl ?_
        have hj3 : j < 3 := hm_nle c_77 (by omega)
        refine ih (j + 1) _ (by omega) (by omega) (by omega) (fun i hi => ?_) (fun z => ?_)
        · rcases Nat.lt_or_ge i j with h | h
          · exact hj i h
          · rw [show i = j by omega]
            exact hm_figy (by omega) c_67
        · rw [hv (by omega)]
          rfl
set_option maxRecDepth 20000 in
theorem s_135 {d n s : Nat} {m : hm_M} {h : Nat → Option va_E} {Q : Option Value → hm_H → Prop} {N : Nat} (hN : m 7 0 = nI N) (hN1 : N ≤ 100) {F : Nat → Int32} {pl a : Nat} (hpl : pl < 20) (ha : a ≤ N) (h0 : hm_nf (m 6) N (hm_skp (m 6) N a) = 0 → Q (some (.int (nI 1))) (hm_hM (hm_uM (hm_pa m (hm_skp (m 6) N a) F) 8 (fun _ => nI (hm_skp (m 6) N a))) h n s)) (h4 : hm_nf (m 6) N (hm_skp (m 6) N a) = 4 → ∀ a2, Q (some (.int (nI 2))) (hm_hM (hm_uM (hm_pa m a2 F) 8 (fun _ => nI (hm_skp (m 6) N a))) h n s)) (h1 : ∀ k, hm_nf (m 6) N (hm_skp (m 6) N a) = k → 0 < k → k < 4 → Q (some (.int (nI 0))) (hm_hM (hm_pa m (hm_skp (m 6) N a + k) (upd F pl (hm_nv (m 6) (hm_skp (m 6) N a) k))) h n s)) : hm_T (d + 1) 135 0 [.ref 61, .int (nI pl), .retAddr 0, .retAddr 0, .retAddr 0] [] (hm_hM (hm_pa m a F) h n s) Q := by
  refine r_aload_n k_135_0 rfl ?_
  refine r_callv1 m_135 k_135_1 cl_8_135 m_131 (by decide) rfl rfl (Nat.le_of_ble_eq_true rfl) (Nat.le_of_ble_eq_true rfl) rfl rfl ?_
  refine s_131 hN hN1 ha ?_
  have hle := hm_skp_le (T := m 6) ha
  generalize hb : hm_skp (m 6) N a = b at *
  refine r_istore_n k_135_4 rfl ?_
  refine r_aload_n k_135_5 rfl ?_
  refine r_get m_135 k_135_6 fl_8_132 rfl rfl ?_
  rw [show hm_pa m (b) (F) 24 0 = nI (b) from rfl]
  refine r_istore_n k_135_9 rfl ?_
  refine r_iconst k_135_10 ci_0 ?_
  refine r_istore k_135_11 rfl ?_
  refine r_iload_n k_135_13 rfl ?_
  refine r_i2l k_135_14 ?_
  refine r_ldc2_w m_135 k_135_15 ll_8_139 ?_
  refine r_ldc2_w m_135 k_135_18 ll_8_141 ?_
  refine r_calls3 m_135 k_135_21 cl_8_84 m_119 (by decide) rfl rfl (Nat.le_of_ble_eq_true rfl) (Nat.le_of_ble_eq_true rfl) ?_
  refine s_119 ?_
  rw [hm_ifc (hm_rngE2 (hm_c (m 6) N b) (a := 48) (b := 57) (lo := 48) (hi := 57) (by decide +kernel) (by decide +kernel))]
  refine r_if_ne k_135_24 rfl (fun c_24 => ?_) (fun c_24 => ?_)
  · have c_24 := hm_if1 c_24
    have hfb : hm_fig (m 6) N b = true := by rw [hm_figc, decide_eq_true c_24]
    have hbN : b < N := by
      rcases Nat.lt_or_ge b N with h | h
      · exact h
      · rw [hm_figo h] at hfb
        cases hfb
    exact l_135 hN hN1 hpl hbN hfb h4 h1 (N - b) 0 (nI 0) rfl (by omega) (Or.inr rfl) (fun i hi => absurd hi (by omega)) (fun _ => rfl)
  · have c_24 := hm_if0 (Decidable.of_not_not c_24)
    refine r_aload_n k_135_27 rfl ?_
    refine r_iconst k_135_28 ci_1 ?_
    refine r_aload_n k_135_29 rfl ?_
    refine r_get m_135 k_135_30 fl_8_132 rfl rfl ?_
    rw [show hm_pa m (b) (F) 24 0 = nI (b) from rfl]
    refine r_callv3 m_135 k_135_33 cl_8_143 m_133 (by decide) rfl rfl (Nat.le_of_ble_eq_true rfl) (Nat.le_of_ble_eq_true rfl) rfl rfl ?_
    refine s_133 ?_
    exact hm_T.ret m_135 k_135_36 rfl (h0 (by unfold hm_nf; rw [if_neg (by rw [hm_figc, decide_eq_false c_24]; decide)]))
