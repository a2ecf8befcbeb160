/-! WHAT IS UNDONE: the class's rounds and the Model's search -/
theorem hw_tb {k m : hm_M} {ad : hm_AD} {nc np nb c t h0 : Nat} (R : hw_R k ad m nc np nb) (hq : ∀ i, i < 5 → ad 0 i < 5) (hc : c < nc) (ht : t < 4) (h4 : h0 < 400) (hx : m 15 (4 * c + t) = nI h0) : hw_R (hc_tb k c t h0) ad (hm_uM (hr_set m c t (-1)) 17 (fun _ => m 17 0 + nI 1)) nc np nb := by
  obtain ⟨E, U, P, Lw, C, Z, B, A, Y⟩ := R
  have o : ∀ j, ¬ j = 31 → ¬ j = 17 → (j < 40 ∨ 45 < j) → ¬ j = 100 + 2 * c → hc_tb k c t h0 j = k j := fun j b1 b2 b3 b4 => hc_tb_o b1 b2 b3 b4
  have mo : ∀ j, ¬ j = 15 → ¬ j = 17 → hm_uM (hr_set m c t (-1)) 17 (fun _ => m 17 0 + nI 1) j = m j := fun j h1 h2 => by
    rw [hm_uMo _ _ h2]
    exact hm_uMo _ _ h1
  have U2 := hr_U_tb U hc ht h4 (by rw [E.1 12 rfl]) hx
  refine ⟨⟨fun j hj => ?_, fun j hj => ?_⟩, U2.c (fun _ _ => rfl) rfl rfl rfl rfl U2.2.2.2.1, fun x hx i hi => ?_, Lw.c hq (fun j h1 h2 => o j (by omega) (by omega) (by omega) (by omega)) rfl, C.c rfl rfl rfl, Z.c (fun j hj => mo j (by omega) (by omega)), B.c rfl, A.c rfl rfl rfl, Y.c (fun j hj => o j (by omega) (by omega) (by omega) (by omega)) (fun j hj => mo j (by omega) (by omega))⟩
  · have hj2 := of_decide_eq_true hj
    rw [o j (by omega) (by omega) (by omega) (by omega), mo j (by omega) (by omega)]
    exact E.1 j hj
  · have hj2 := of_decide_eq_true hj
    by_cases h17 : j = 17
    · rw [h17, hc_tb_17, E.2 17 rfl]
      rfl
    · rw [o j (by omega) h17 (by omega) (by omega), mo j (by omega) h17]
      exact E.2 j hj
  · rw [o _ (by omega) (by omega) (by omega) (by omega), mo 14 (by decide) (by decide)]
    exact P x hx i hi
theorem hw_un0 {k m : hm_M} {ad : hm_AD} {nc np nb : Nat} (R : hw_R k ad m nc np nb) (hq : ∀ i, i < 5 → ad 0 i < 5) : hw_R k ad (hm_un (0, m)) nc np nb := by
  refine R.c hq ⟨fun j hj => ?_, fun j hj => ?_⟩ (fun _ _ => rfl) (fun j hj => hm_uMo _ _ (by omega))
  · have hj2 := of_decide_eq_true hj
    rw [R.E.1 j hj]
    exact (hm_uMo _ _ (by omega)).symm
  · by_cases h17 : j = 17
    · rw [h17, R.E.2 17 rfl]
      show _ = m 17 0 + nI 0
      rw [show (nI 0 : Int32) = 0 from rfl, Int32.add_zero]
    · rw [R.E.2 j hj]
      exact congrFun (hm_uMo _ _ h17).symm 0
theorem hw_un1 {m : hm_M} {a c t : Nat} : hm_uM (hr_set (hm_un (a, m)) c t (-1)) 17 (fun _ => hm_un (a, m) 17 0 + nI 1) = hm_un (a + 1, hr_set m c t (-1)) := by
  funext j
  by_cases h17 : j = 17
  · rw [h17]
    show (fun _ => m 17 0 + nI a + nI 1) = (fun _ => m 17 0 + nI (a + 1))
    rw [Int32.add_assoc, nI_add]
  · rw [hm_uMo _ _ h17, show hm_un (a + 1, hr_set m c t (-1)) j = hr_set m c t (-1) j from hm_uMo _ _ h17]
    by_cases h15 : j = 15
    · rw [h15]
      rfl
    · rw [show hr_set (hm_un (a, m)) c t (-1) j = hm_un (a, m) j from hm_uMo _ _ h15, show hr_set m c t (-1) j = m j from hm_uMo _ _ h15]
      exact hm_uMo _ _ h17
def hw_fine (only faith : Int32) (m : hm_M) (i : Nat) : Prop := ¬ (¬ hm_ask m only faith (i / 4) = 0 ∧ ¬ m 15 i < 0 ∧ ¬ hm_hn m (i / 4) (i % 4) (m 15 i) ≤ 0)
theorem hw_skip1 {only faith : Int32} {nc K j a : Nat} {m : hm_M} (hj : j < 4 * nc) (hf : hw_fine only faith m j) : hm_pr only faith nc (K + 1) m j a = hm_pr only faith nc K m (j + 1) a := by
  show (if j < 4 * nc then (if hm_ask m only faith (j / 4) = 0 then hm_pr only faith nc K m (j + 1) a else if m 15 j < 0 then hm_pr only faith nc K m (j + 1) a else if hm_hn m (j / 4) (j % 4) (m 15 j) ≤ 0 then hm_pr only faith nc K m (j + 1) a else hm_pr only faith nc K (hm_uM m 15 (upd (m 15) j (-1))) 0 (a + 1)) else some (a, m)) = _
  rw [if_pos hj]
  by_cases h1 : hm_ask m only faith (j / 4) = 0
  · rw [if_pos h1]
  · rw [if_neg h1]
    by_cases h2 : m 15 j < 0
    · rw [if_pos h2]
    · rw [if_neg h2]
      by_cases h3 : hm_hn m (j / 4) (j % 4) (m 15 j) ≤ 0
      · rw [if_pos h3]
      · exact absurd ⟨h1, h2, h3⟩ hf
theorem hw_skips {only faith : Int32} {nc K a : Nat} {m : hm_M} : ∀ (D j : Nat), j + D ≤ 4 * nc → (∀ i, j ≤ i → i < j + D → hw_fine only faith m i) → hm_pr only faith nc (K + D) m j a = hm_pr only faith nc K m (j + D) a := by
  intro D
  induction D with
  | zero => intro j _ _; rfl
  | succ D ih =>
    intro j h1 h2
    rw [show K + (D + 1) = (K + D) + 1 by omega, hw_skip1 (by omega) (h2 j (by omega) (by omega)), ih (j + 1) (by omega) (fun i a b => h2 i (by omega) (by omega)), show j + 1 + D = j + (D + 1) by omega]
theorem hw_end {only faith : Int32} {nc a : Nat} {m : hm_M} (h : ∀ i, i < 4 * nc → hw_fine only faith m i) : hm_pr only faith nc (1 + 4 * nc) m 0 a = some (a, m) := by
  rw [hw_skips (4 * nc) 0 (by omega) (fun i _ hi => h i (by omega))]
  exact if_neg (by omega)
theorem hw_act {only faith : Int32} {nc K c t a : Nat} {m : hm_M} (hc : c < nc) (ht : t < 4) (hb : ¬ hw_fine only faith m (4 * c + t)) : hm_pr only faith nc (K + 1) m (4 * c + t) a = hm_pr only faith nc K (hr_set m c t (-1)) 0 (a + 1) := by
  have hb2 : ¬ hm_ask m only faith ((4 * c + t) / 4) = 0 ∧ ¬ m 15 (4 * c + t) < 0 ∧ ¬ hm_hn m ((4 * c + t) / 4) ((4 * c + t) % 4) (m 15 (4 * c + t)) ≤ 0 := Classical.not_not.mp hb
  show (if 4 * c + t < 4 * nc then (if hm_ask m only faith ((4 * c + t) / 4) = 0 then hm_pr only faith nc K m ((4 * c + t) + 1) a else if m 15 (4 * c + t) < 0 then hm_pr only faith nc K m ((4 * c + t) + 1) a else if hm_hn m ((4 * c + t) / 4) ((4 * c + t) % 4) (m 15 (4 * c + t)) ≤ 0 then hm_pr only faith nc K m ((4 * c + t) + 1) a else hm_pr only faith nc K (hm_uM m 15 (upd (m 15) (4 * c + t) (-1))) 0 (a + 1)) else some (a, m)) = _
  rw [if_pos (by omega), if_neg hb2.1, if_neg hb2.2.1, if_neg hb2.2.2]
  rfl
theorem hw_ask_set {m : hm_M} {only faith y : Int32} {c t x : Nat} : hm_ask (hr_set m c t y) only faith x = hm_ask m only faith x := rfl
theorem hw_any_c {P P2 : Nat → Bool} : ∀ n, (∀ x, x < n → P2 x = P x) → hm_any P2 n = hm_any P n := by
  intro n
  induction n with
  | zero => intro _; rfl
  | succ n ih =>
    intro h
    show (hm_any P2 n || P2 n) = (hm_any P n || P n)
    rw [ih (fun x hx => h x (by omega)), h n (by omega)]
theorem hw_hn_set {m m2 : hm_M} {c t : Nat} {hour : Int32} (h : ∀ j, ¬ j = 15 → m2 j = m j) (h15 : ∀ j, j < 4 → m2 15 (4 * c + j) = m 15 (4 * c + j)) : hm_hn m2 c t hour = hm_hn m c t hour := by
  unfold hm_hn hm_hin
  rw [h 10 (by decide), h 11 (by decide), h 4 (by decide), h 14 (by decide)]
  rw [hw_any_c (P2 := fun j => decide (m 4 (20 * (m 10 c).toNatClampNeg + 5 * t + 4) >>> (nI j &&& 31) &&& nI 1 = nI 1) && !(decide (¬ m2 15 (4 * c + j) < 0) && decide (¬ hour ≤ m2 15 (4 * c + j)))) (P := fun j => decide (m 4 (20 * (m 10 c).toNatClampNeg + 5 * t + 4) >>> (nI j &&& 31) &&& nI 1 = nI 1) && !(decide (¬ m 15 (4 * c + j) < 0) && decide (¬ hour ≤ m 15 (4 * c + j)))) 4 (fun x hx => by rw [h15 x hx])]
theorem hw_fine_set {m : hm_M} {only faith y : Int32} {c t i : Nat} (ht : t < 4) (hi : ¬ i / 4 = c) (h : hw_fine only faith m i) : hw_fine only faith (hr_set m c t y) i := by
  unfold hw_fine at h ⊢
  have e1 : hr_set m c t y 15 i = m 15 i := by
    rw [hr_set15, if_neg (by omega)]
  have e2 : hm_hn (hr_set m c t y) (i / 4) (i % 4) (m 15 i) = hm_hn m (i / 4) (i % 4) (m 15 i) := hw_hn_set (fun j hj => hm_uMo _ _ hj) (fun j hj => by rw [hr_set15, if_neg (by omega)])
  rw [e1, hw_ask_set, e2]
  exact h
theorem hw_fb {P : Nat → Bool} : ∀ (j i : Nat), i + j < 2 ^ 31 → (hm_fb P j i = -1 ∧ ∀ y, i ≤ y → y < i + j → P y = false) ∨ ∃ x, i ≤ x ∧ x < i + j ∧ hm_fb P j i = nI x ∧ P x = true ∧ ∀ y, i ≤ y → y < x → P y = false := by
  intro j
  induction j with
  | zero => intro i _; exact Or.inl ⟨rfl, fun y h1 h2 => by omega⟩
  | succ j ih =>
    intro i hb
    show ((if P i = true then nI i else hm_fb P j (i + 1)) = -1 ∧ _) ∨ ∃ x, i ≤ x ∧ x < i + (j + 1) ∧ (if P i = true then nI i else hm_fb P j (i + 1)) = nI x ∧ _
    by_cases h : P i = true
    · rw [if_pos h]
      exact Or.inr ⟨i, by omega, by omega, rfl, h, fun y h1 h2 => by omega⟩
    · rw [if_neg h]
      have h0 : P i = false := by
        cases hp : P i with
        | true => exact absurd hp h
        | false => rfl
      rcases ih (i + 1) (by omega) with ⟨h1, h2⟩ | ⟨x, h1, h2, h3, h5, h6⟩
      · refine Or.inl ⟨h1, fun y h3 h5 => ?_⟩
        by_cases hy : y = i
        · rw [hy]; exact h0
        · exact h2 y (by omega) (by omega)
      · refine Or.inr ⟨x, by omega, by omega, h3, h5, fun y h7 h8 => ?_⟩
        by_cases hy : y = i
        · rw [hy]; exact h0
        · exact h6 y (by omega) h8
theorem hw_brk {k m : hm_M} {ad : hm_AD} {nc np nb c i f : Nat} (R : hw_R k ad m nc np nb) (hc : c < nc) (hi : i < 4) (hf : f < 4) (hmf : m 10 c = nI f) : hm_brk k c (ad 0 f) i = (decide (¬ m 15 (4 * c + i) < 0) && decide (¬ hm_hn m c i (m 15 (4 * c + i)) ≤ 0)) := by
  obtain ⟨E, U, P, Lw, C, Z, B, A, Y⟩ := R
  obtain ⟨hH, hv, _⟩ := U
  obtain ⟨_, ⟨d0, hd0, hd4⟩, hpv⟩ := A c hc
  unfold hm_brk
  rw [hH c hc i hi, hm_hv_dec (hv (4 * c + i) (by omega))]
  rcases hv (4 * c + i) (by omega) with h1 | ⟨hh, h4, h1⟩
  · rw [h1, decide_eq_true rfl]
    rfl
  · have eb := hx_hbl (ad := ad) (f := f) hc hi hf hH P Lw (by rw [E.1 11 rfl]) hd0 hd4 h4 (B f i hf hi).1 (B f i hf hi).2 hpv (fun t ht => hv _ (by omega))
    have eh : hm_hn m c i (nI hh) = hm_hin m f c i (nI hh) := by
      unfold hm_hn
      rw [hmf, nI_clamp (by omega)]
    obtain ⟨j, hj, ej⟩ := hw_hin (m := m) (f := f) (c := c) (t := i) (hour := nI hh)
    rw [h1, eb, eh, ej]
    congr 1
    by_cases hz : nI j = 0
    · rw [decide_eq_true hz, decide_eq_false (fun z => z ((hw_le0 (by omega)).mpr hz))]
      rfl
    · rw [decide_eq_false hz, decide_eq_true (show ¬ nI j ≤ 0 from fun z => hz ((hw_le0 (by omega)).mp z))]
      rfl
theorem hw_pc_set {m : hm_M} {c t : Nat} (ht : t < 4) (hn : ¬ m 15 (4 * c + t) = -1) : hm_cnt (fun u => decide (¬ hr_set m c t (-1) 15 (4 * c + u) = -1)) 4 + 1 = hm_cnt (fun u => decide (¬ m 15 (4 * c + u) = -1)) 4 := by
  have e := hr_cnt1 (P := fun u => decide (¬ m 15 (4 * c + u) = -1)) (P2 := fun u => decide (¬ hr_set m c t (-1) 15 (4 * c + u) = -1)) (c := t) 4 ht (fun x hx hxt => by
    show decide (¬ hr_set m c t (-1) 15 (4 * c + x) = -1) = _
    rw [hr_set15, if_neg (by omega)])
  have e1 : decide (¬ m 15 (4 * c + t) = -1) = true := decide_eq_true hn
  have e2 : decide (¬ hr_set m c t (-1) 15 (4 * c + t) = -1) = false := by
    rw [hr_set_e]
    rfl
  rw [e1, e2, if_pos rfl, if_neg (by decide)] at e
  exact e
/-- one case: the class's rounds against the Model's search -/
theorem hw_ub {ad : hm_AD} {nc np nb c f : Nat} {only faith : Int32} (hq : ∀ i, i < 5 → ad 0 i < 5) (hc : c < nc) (hf : f < 4) : ∀ (r : Nat) (k m : hm_M) (a b : Nat), hw_R k ad (hm_un (a, m)) nc np nb → m 10 c = nI f → ¬ hm_ask m only faith c = 0 → (∀ i, i < 4 * c → hw_fine only faith m i) → hm_cnt (fun u => decide (¬ m 15 (4 * c + u) = -1)) 4 ≤ r → ∃ (m2 : hm_M) (u : Nat), (hc_ub c (ad 0 f) r b k).1 = b + u ∧ hw_R (hc_ub c (ad 0 f) r b k).2 ad (hm_un (a + u, m2)) nc np nb ∧ m2 10 = m 10 ∧ (∀ i, i < 4 * (c + 1) → hw_fine only faith m2 i) ∧ (∀ res K, hm_pr only faith nc K m2 0 (a + u) = some res → ∃ K2, hm_pr only faith nc K2 m 0 a = some res) := by
  intro r
  induction r with
  | zero =>
    intro k m a b R hmf hask hfi hpc
    refine ⟨m, 0, rfl, R, rfl, fun i hi => ?_, fun res K h => ⟨K, h⟩⟩
    by_cases h1 : i < 4 * c
    · exact hfi i h1
    · intro z
      have h2 : m 15 i = -1 := by
        by_cases h3 : m 15 i = -1
        · exact h3
        · exfalso
          have h4 := hr_cnt1 (P := fun u => decide (¬ m 15 (4 * c + u) = -1)) (P2 := fun u => if u = i - 4 * c then false else decide (¬ m 15 (4 * c + u) = -1)) (c := i - 4 * c) 4 (by omega) (fun x _ hx => if_neg hx)
          rw [if_pos rfl, show 4 * c + (i - 4 * c) = i by omega, decide_eq_true h3, if_pos rfl, if_neg (show ¬ false = true by decide)] at h4
          omega
      rw [h2] at z
      exact z.2.1 (by decide)
  | succ r ih =>
    intro k m a b R hmf hask hfi hpc
    have hb := fun i (hi : i < 4) => hw_brk (i := i) R hc hi hf hmf
    have hb2 : ∀ i, i < 4 → (hm_brk k c (ad 0 f) i = true ↔ ¬ hw_fine only faith m (4 * c + i)) := fun i hi => by
      rw [hb i hi, Bool.and_eq_true, decide_eq_true_iff, decide_eq_true_iff]
      unfold hw_fine
      rw [Classical.not_not, show (4 * c + i) / 4 = c by omega, show (4 * c + i) % 4 = i by omega]
      exact ⟨fun z => ⟨hask, z.1, z.2⟩, fun z => ⟨z.2.1, z.2.2⟩⟩
    have hfn : ∀ i, i < 4 → hm_brk k c (ad 0 f) i = false → hw_fine only faith m (4 * c + i) := fun i hi h => by
      refine Classical.not_not.mp (fun z => ?_)
      rw [(hb2 i hi).mpr z] at h
      exact nomatch h
    rcases hw_fb (P := hm_brk k c (ad 0 f)) 4 0 (by decide) with ⟨h1, h2⟩ | ⟨x, h1, h2, h3, h5, h6⟩
    · have e : hc_ub c (ad 0 f) (r + 1) b k = (b, k) := if_pos h1
      rw [e]
      refine ⟨m, 0, rfl, R, rfl, fun i hi => ?_, fun res K h => ⟨K, h⟩⟩
      by_cases h7 : i < 4 * c
      · exact hfi i h7
      · have h8 := hfn (i - 4 * c) (by omega) (h2 _ (by omega) (by omega))
        rw [show 4 * c + (i - 4 * c) = i by omega] at h8
        exact h8
    · have hne : ¬ hm_fb (hm_brk k c (ad 0 f)) 4 0 = -1 := by
        rw [h3]
        exact hm_nIm x (by omega)
      have hH := R.U.1 c hc x (by omega)
      have hx15 : ¬ m 15 (4 * c + x) = -1 := fun z => by
        have h7 := hb x (by omega)
        rw [h5] at h7
        have h8 : hm_un (a, m) 15 (4 * c + x) = -1 := z
        rw [h8] at h7
        exact nomatch h7
      rcases R.U.2.1 (4 * c + x) (by omega) with h7 | ⟨hh, h4, h7⟩
      · exact absurd h7 hx15
      have e : hc_ub c (ad 0 f) (r + 1) b k = hc_ub c (ad 0 f) r (b + 1) (hc_tb k c x hh) := by
        show (if hm_fb (hm_brk k c (ad 0 f)) 4 0 = -1 then (b, k) else hc_ub c (ad 0 f) r (b + 1) (hc_tb k c (hm_fb (hm_brk k c (ad 0 f)) 4 0).toNatClampNeg (k (100 + 2 * c) (hm_fb (hm_brk k c (ad 0 f)) 4 0).toNatClampNeg).toNatClampNeg)) = _
        rw [if_neg hne, h3, nI_clamp (by omega), hH, h7, nI_clamp (by omega)]
      have R2 := hw_tb R hq hc (by omega) h4 h7
      rw [hw_un1] at R2
      have hpc2 := hw_pc_set (m := m) (c := c) (t := x) (by omega) hx15
      obtain ⟨m2, u, g1, g2, g3, g4, g5⟩ := ih (hc_tb k c x hh) (hr_set m c x (-1)) (a + 1) (b + 1) R2 hmf (by rw [hw_ask_set]; exact hask) (fun i hi => hw_fine_set (by omega) (by omega) (hfi i hi)) (by omega)
      rw [e]
      refine ⟨m2, u + 1, by omega, ?_, g3, g4, fun res K h => ?_⟩
      · rw [show a + (u + 1) = a + 1 + u by omega]
        exact g2
      · obtain ⟨K2, h8⟩ := g5 res K (by rw [show a + 1 + u = a + (u + 1) by omega]; exact h)
        refine ⟨K2 + 1 + (4 * c + x), ?_⟩
        rw [hw_skips (4 * c + x) 0 (by omega) (fun i _ hi => ?_), Nat.zero_add, hw_act hc (by omega) ((hb2 x (by omega)).mp h5)]
        · exact h8
        · by_cases h9 : i < 4 * c
          · exact hfi i h9
          · have h10 := hfn (i - 4 * c) (by omega) (h6 _ (by omega) (by omega))
            rw [show 4 * c + (i - 4 * c) = i by omega] at h10
            exact h10
/-- a paper, or an undoing: one case alone is asked -/
theorem hw_only {k m : hm_M} {ad : hm_AD} {nc np nb c f : Nat} (R : hw_R k ad m nc np nb) (hq : ∀ i, i < 5 → ad 0 i < 5) (hnc : nc ≤ 16) (hc : c < nc) (hf : f < 4) (hmf : m 10 c = nI f) : ∃ (K : Nat) (r : Nat × hm_M), hm_pr (nI c) (-1) nc K m 0 0 = some r ∧ (hc_ub c (ad 0 f) 4 0 k).1 = r.1 ∧ hw_R (hc_ub c (ad 0 f) 4 0 k).2 ad (hm_un r) nc np nb := by
  have hask : ∀ (m0 : hm_M) x, x < nc → (hm_ask m0 (nI c) (-1) x = 0 ↔ ¬ x = c) := fun m0 x hx => by
    unfold hm_ask
    rw [if_pos (nI_pos' (by omega))]
    by_cases hxc : x = c
    · rw [hxc, if_neg (fun z => z rfl)]
      exact ⟨fun z => absurd z (by decide), fun z => absurd rfl z⟩
    · rw [if_pos (fun z => hxc (hm_nIinj z (by omega) (by omega)))]
      exact ⟨fun _ => hxc, fun _ => rfl⟩
  have hno : ∀ (m0 : hm_M) i, i < 4 * nc → ¬ i / 4 = c → hw_fine (nI c) (-1) m0 i := fun m0 i hi hic z => z.1 ((hask m0 (i / 4) (by omega)).mpr hic)
  have hle : hm_cnt (fun u => decide (¬ m 15 (4 * c + u) = -1)) 4 ≤ 4 := hm_cnt_len _ 4
  obtain ⟨m2, u, g1, g2, g3, g4, g5⟩ := hw_ub (only := nI c) (faith := -1) hq hc hf 4 k m 0 0 (hw_un0 R hq) hmf (fun z => (hask m c hc).mp z rfl) (fun i hi => hno m i (by omega) (by omega)) hle
  obtain ⟨K2, h1⟩ := g5 (0 + u, m2) _ (hw_end (fun i hi => by
    by_cases h2 : i < 4 * (c + 1)
    · exact g4 i h2
    · exact hno m2 i hi (by omega)))
  exact ⟨K2, _, h1, g1, g2⟩
