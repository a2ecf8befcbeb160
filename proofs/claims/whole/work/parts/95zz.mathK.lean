/-! HOURS AND ROWS: what both sides keep -/
def hr_rows (k m : hm_M) (nc : Nat) : Prop := ∀ hh, hh < 400 → k 40 hh = nI (hm_cnt (fun j => decide (m 15 j = nI hh)) (4 * nc)) ∧ k 41 hh = nI (hm_cnt (fun c => decide (m 15 (4 * c + 1) = nI hh)) nc) ∧ k 42 hh = nI (hm_cnt (fun c => decide (m 15 (4 * c + 2) = nI hh)) nc) ∧ k 43 hh = nI (hm_cnt (fun c => decide (¬ m 15 (4 * c + 0) < 0) && decide ((m 15 (4 * c + 0)).toInt ≤ (nI hh).toInt ∧ (nI hh).toInt ≤ (hm_re (m 15 (4 * c + 2)) (m 15 (4 * c + 3))).toInt)) nc) ∧ k 44 hh = hm_sg (hm_car m (nI hh)) nc ∧ k 45 hh = nI (hm_cnt (fun j => decide (m 15 j = nI hh)) (4 * nc))
def hr_dis (m : hm_M) (nc : Nat) : Prop := ∀ c, c < nc → ∀ t u, t < 4 → u < 4 → ¬ t = u → m 15 (4 * c + t) = m 15 (4 * c + u) → m 15 (4 * c + t) = -1
def hr_U (k m : hm_M) (nc nb : Nat) : Prop := hx_H k m nc ∧ (∀ j, j < 4 * nc → hm_hv (m 15 j)) ∧ hr_dis m nc ∧ (∃ c0, m 0 0 = nI c0 ∧ c0 ≤ 4 ∧ ∀ hh, hh < 400 → hm_cnt (fun j => decide (m 15 j = nI hh)) (4 * nc) ≤ c0) ∧ hr_rows k m nc ∧ (∀ hh, hh < 400 → hx_sat ((hc_wl k (nI hh) nc).map (hr_F m nc nb)) (nI 0)) ∧ k 31 0 = nI (hm_cnt (fun j => decide (¬ m 15 j < 0)) (4 * nc))
def hr_set (m : hm_M) (c t : Nat) (y : Int32) : hm_M := hm_uM m 15 (upd (m 15) (4 * c + t) y)
theorem hr_set15 {m : hm_M} {c t j : Nat} {y : Int32} : hr_set m c t y 15 j = if j = 4 * c + t then y else m 15 j := rfl
theorem hr_set_e {m : hm_M} {c t : Nat} {y : Int32} : hr_set m c t y 15 (4 * c + t) = y := if_pos rfl
theorem hr_set_n {m : hm_M} {c t x u : Nat} {y : Int32} (hu : u < 4) (ht : t < 4) (h : ¬ (x = c ∧ u = t)) : hr_set m c t y 15 (4 * x + u) = m 15 (4 * x + u) := if_neg (by omega)
theorem hr_rb_c {H H2 : Nat → Int32} {j : Nat} (h : ∀ t, t < 4 → H t = H2 t) : hr_rb H j = hr_rb H2 j := by
  unfold hr_rb
  rw [h 0 (by decide), h 2 (by decide), h 3 (by decide)]
theorem hr_tkn {m : hm_M} {hh : Nat} : ∀ nc, hm_tkn m nc 0 hh = hm_cnt (fun j => decide (m 15 j = nI hh)) (4 * nc) := by
  intro nc
  induction nc with
  | zero => rfl
  | succ nc ih =>
    have e : hm_cnt (fun j => decide (m 15 j = nI hh)) (4 * (nc + 1)) = hm_cnt (fun j => decide (m 15 j = nI hh)) (4 * nc) + (if decide (m 15 (4 * nc + 0) = nI hh) = true then 1 else 0) + (if decide (m 15 (4 * nc + 1) = nI hh) = true then 1 else 0) + (if decide (m 15 (4 * nc + 2) = nI hh) = true then 1 else 0) + (if decide (m 15 (4 * nc + 3) = nI hh) = true then 1 else 0) := rfl
    rw [e, ← ih]
    show hm_cnt _ nc + (if decide (m 15 (4 * nc + 0) = nI hh) = true then 1 else 0) + (hm_cnt _ nc + (if decide (m 15 (4 * nc + 1) = nI hh) = true then 1 else 0)) + (hm_cnt _ nc + (if decide (m 15 (4 * nc + 2) = nI hh) = true then 1 else 0)) + (hm_cnt _ nc + (if decide (m 15 (4 * nc + 3) = nI hh) = true then 1 else 0)) = hm_cnt _ nc + hm_cnt _ nc + hm_cnt _ nc + hm_cnt _ nc + _ + _ + _ + _
    omega
theorem hr_nn (x : Int32) : x = x + (hr_b false - hr_b false) := by
  show x = x + (nI 0 - nI 0)
  rw [show nI 0 - nI 0 = 0 by decide, Int32.add_zero]
theorem hr_r1 (x a : Int32) : x + nI 1 * a = x + (a - nI 0) := by
  show x + 1 * a = x + (a - 0)
  grind
theorem hr_r2 (x a : Int32) : x + -1 * a = x + (nI 0 - a) := by
  show x + -1 * a = x + (0 - a)
  grind
theorem hr_r3 (x : Int32) : x + nI 1 - nI 1 = x := by
  show x + 1 - 1 = x
  grind
theorem hr_rows_step {k k2 m : hm_M} {nc c t : Nat} {y : Int32} (hc : c < nc) (ht : t < 4) (hR : hr_rows k m nc) (hH : hx_H k m nc) (hv : ∀ j, j < 4 * nc → hm_hv (m 15 j)) (hy : hm_hv y) (hdis : ∀ u, u < 4 → ¬ u = t → ∀ hh, hh < 400 → (m 15 (4 * c + t) = nI hh ∨ y = nI hh) → ¬ m 15 (4 * c + u) = nI hh)
    (h40 : ∀ hh, hh < 400 → k2 40 hh = k 40 hh + (hr_b (decide (y = nI hh)) - hr_b (decide (m 15 (4 * c + t) = nI hh))))
    (h45 : ∀ hh, hh < 400 → k2 45 hh = k 45 hh + (hr_b (decide (y = nI hh)) - hr_b (decide (m 15 (4 * c + t) = nI hh))))
    (h41 : ∀ hh, hh < 400 → k2 41 hh = if t = 1 then k 41 hh + (hr_b (decide (y = nI hh)) - hr_b (decide (m 15 (4 * c + t) = nI hh))) else k 41 hh)
    (h42 : ∀ hh, hh < 400 → k2 42 hh = if t = 2 then k 42 hh + (hr_b (decide (y = nI hh)) - hr_b (decide (m 15 (4 * c + t) = nI hh))) else k 42 hh)
    (h43 : ∀ hh, hh < 400 → k2 43 hh = k 43 hh + (hr_b (hr_rb (upd (k (100 + 2 * c)) t y) hh) - hr_b (hr_rb (k (100 + 2 * c)) hh)))
    (h44 : ∀ hh, hh < 400 → k2 44 hh = if (t = 1 ∨ t = 3) then k 44 hh + ((if y = nI hh then m 12 c else nI 0) - (if m 15 (4 * c + t) = nI hh then m 12 c else nI 0)) else k 44 hh) : hr_rows k2 (hr_set m c t y) nc := by
  intro hh h4
  obtain ⟨a0, a1, a2, a3, a4, a5⟩ := hR hh h4
  have q : nI (hm_cnt (fun j => decide (hr_set m c t y 15 j = nI hh)) (4 * nc)) = nI (hm_cnt (fun j => decide (m 15 j = nI hh)) (4 * nc)) + (hr_b (decide (y = nI hh)) - hr_b (decide (m 15 (4 * c + t) = nI hh))) := by
    have e := hr_cntI (P := fun j => decide (m 15 j = nI hh)) (P2 := fun j => decide (hr_set m c t y 15 j = nI hh)) (c := 4 * c + t) (n := 4 * nc) (by omega) (fun x _ hx => by
      show decide (hr_set m c t y 15 x = nI hh) = _
      rw [hr_set15, if_neg hx])
    rw [e]
    show _ + (hr_b (decide (hr_set m c t y 15 (4 * c + t) = nI hh)) - _) = _
    rw [hr_set_e]
  have q1 : ∀ u, u < 4 → nI (hm_cnt (fun x => decide (hr_set m c t y 15 (4 * x + u) = nI hh)) nc) = if t = u then nI (hm_cnt (fun x => decide (m 15 (4 * x + u) = nI hh)) nc) + (hr_b (decide (y = nI hh)) - hr_b (decide (m 15 (4 * c + t) = nI hh))) else nI (hm_cnt (fun x => decide (m 15 (4 * x + u) = nI hh)) nc) := by
    intro u hu
    by_cases htu : t = u
    · rw [if_pos htu, ← htu]
      have e := hr_cntI (P := fun x => decide (m 15 (4 * x + t) = nI hh)) (P2 := fun x => decide (hr_set m c t y 15 (4 * x + t) = nI hh)) (c := c) (n := nc) hc (fun x _ hx => by
        show decide (hr_set m c t y 15 (4 * x + t) = nI hh) = _
        rw [hr_set_n ht ht (fun z => hx z.1)])
      rw [e]
      show _ + (hr_b (decide (hr_set m c t y 15 (4 * c + t) = nI hh)) - _) = _
      rw [hr_set_e]
    · rw [if_neg htu, hr_cnt_c nc (fun x _ => by
        show decide (hr_set m c t y 15 (4 * x + u) = nI hh) = decide (m 15 (4 * x + u) = nI hh)
        rw [hr_set_n hu ht (fun z => htu z.2.symm)])]
  refine ⟨?_, ?_, ?_, ?_, ?_, ?_⟩
  · rw [h40 hh h4, a0, q]
  · rw [h41 hh h4, a1, q1 1 (by decide)]
  · rw [h42 hh h4, a2, q1 2 (by decide)]
  · have e := hr_cntI (P := fun x => decide (¬ m 15 (4 * x + 0) < 0) && decide ((m 15 (4 * x + 0)).toInt ≤ (nI hh).toInt ∧ (nI hh).toInt ≤ (hm_re (m 15 (4 * x + 2)) (m 15 (4 * x + 3))).toInt)) (P2 := fun x => decide (¬ hr_set m c t y 15 (4 * x + 0) < 0) && decide ((hr_set m c t y 15 (4 * x + 0)).toInt ≤ (nI hh).toInt ∧ (nI hh).toInt ≤ (hm_re (hr_set m c t y 15 (4 * x + 2)) (hr_set m c t y 15 (4 * x + 3))).toInt)) (c := c) (n := nc) hc (fun x _ hx => by
      show (decide (¬ hr_set m c t y 15 (4 * x + 0) < 0) && decide ((hr_set m c t y 15 (4 * x + 0)).toInt ≤ (nI hh).toInt ∧ (nI hh).toInt ≤ (hm_re (hr_set m c t y 15 (4 * x + 2)) (hr_set m c t y 15 (4 * x + 3))).toInt)) = _
      rw [hr_set_n (u := 0) (by decide) ht (fun z => hx z.1), hr_set_n (u := 2) (by decide) ht (fun z => hx z.1), hr_set_n (u := 3) (by decide) ht (fun z => hx z.1)])
    rw [e, h43 hh h4, a3]
    have e1 := hr_room (H := fun u => m 15 (4 * c + u)) (fun u hu => hv _ (by omega)) h4
    have e2 := hr_room (H := fun u => hr_set m c t y 15 (4 * c + u)) (fun u hu => by
      show hm_hv (hr_set m c t y 15 (4 * c + u))
      rw [hr_set15]
      by_cases hu2 : 4 * c + u = 4 * c + t
      · rw [if_pos hu2]; exact hy
      · rw [if_neg hu2]; exact hv _ (by omega)) h4
    have f1 : hr_rb (k (100 + 2 * c)) hh = hr_rb (fun u => m 15 (4 * c + u)) hh := hr_rb_c (fun u hu => hH c hc u hu)
    have f2 : hr_rb (upd (k (100 + 2 * c)) t y) hh = hr_rb (fun u => hr_set m c t y 15 (4 * c + u)) hh := hr_rb_c (fun u hu => by
      show upd (k (100 + 2 * c)) t y u = hr_set m c t y 15 (4 * c + u)
      unfold upd
      rw [hr_set15]
      by_cases hu2 : u = t
      · rw [if_pos hu2, if_pos (by omega)]
      · rw [if_neg hu2, if_neg (by omega)]
        exact hH c hc u hu)
    rw [f1, f2, ← e1, ← e2]
  · have e := hr_sg1 (f := hm_car m (nI hh)) (f2 := hm_car (hr_set m c t y) (nI hh)) (c := c) nc hc (fun x _ hx => by
      show (if hr_set m c t y 15 (4 * x + 1) = nI hh then m 12 x else if ¬ hr_set m c t y 15 (4 * x + 3) = nI hh then nI 0 else m 12 x) = (if m 15 (4 * x + 1) = nI hh then m 12 x else if ¬ m 15 (4 * x + 3) = nI hh then nI 0 else m 12 x)
      rw [hr_set_n (u := 1) (by decide) ht (fun z => hx z.1), hr_set_n (u := 3) (by decide) ht (fun z => hx z.1)])
    rw [h44 hh h4, a4, e]
    show _ = hm_sg (hm_car m (nI hh)) nc + ((if hr_set m c t y 15 (4 * c + 1) = nI hh then m 12 c else if ¬ hr_set m c t y 15 (4 * c + 3) = nI hh then nI 0 else m 12 c) - (if m 15 (4 * c + 1) = nI hh then m 12 c else if ¬ m 15 (4 * c + 3) = nI hh then nI 0 else m 12 c))
    by_cases t1 : t = 1
    · subst t1
      rw [if_pos (Or.inl rfl), hr_set_e, hr_set_n (u := 3) (by decide) ht (by omega)]
      have d3 := hdis 3 (by decide) (by decide) hh h4
      by_cases b1 : y = nI hh
      · rw [if_pos b1, if_pos b1]
        by_cases b2 : m 15 (4 * c + 1) = nI hh
        · rw [if_pos b2, if_pos b2]
        · rw [if_neg b2, if_neg b2, if_pos (d3 (Or.inr b1))]
      · rw [if_neg b1, if_neg b1]
        by_cases b2 : m 15 (4 * c + 1) = nI hh
        · rw [if_pos b2, if_pos b2, if_pos (d3 (Or.inl b2))]
        · rw [if_neg b2, if_neg b2]
          by_cases b3 : m 15 (4 * c + 3) = nI hh
          · rw [if_neg (not_not_intro b3), Int32.sub_self, Int32.sub_self]
          · rw [if_pos b3]
    · by_cases t3 : t = 3
      · subst t3
        rw [if_pos (Or.inr rfl), hr_set_e, hr_set_n (u := 1) (by decide) ht (by omega)]
        have d1 := hdis 1 (by decide) (by decide) hh h4
        by_cases b1 : m 15 (4 * c + 1) = nI hh
        · rw [if_pos b1, if_pos b1]
          rw [if_neg (fun z => d1 (Or.inr z) b1), if_neg (fun z => d1 (Or.inl z) b1), Int32.sub_self, Int32.sub_self]
        · rw [if_neg b1, if_neg b1]
          by_cases b2 : y = nI hh
          · rw [if_pos b2, if_neg (not_not_intro b2)]
            by_cases b3 : m 15 (4 * c + 3) = nI hh
            · rw [if_pos b3, if_neg (not_not_intro b3)]
            · rw [if_neg b3, if_pos b3]
          · rw [if_neg b2, if_pos b2]
            by_cases b3 : m 15 (4 * c + 3) = nI hh
            · rw [if_pos b3, if_neg (not_not_intro b3)]
            · rw [if_neg b3, if_pos b3]
      · rw [if_neg (by omega), hr_set_n (u := 1) (by decide) ht (by omega), hr_set_n (u := 3) (by decide) ht (by omega), Int32.sub_self, Int32.add_zero]
  · rw [h45 hh h4, a5, q]
theorem hr_bI {hh h0 : Nat} (h1 : hh < 400) (h2 : h0 < 400) : decide (nI h0 = nI hh) = decide (hh = h0) := decide_eq_decide.mpr ⟨fun z => (hm_nIinj z (by omega) (by omega)).symm, fun z => by rw [z]⟩
theorem hr_bm {hh : Nat} (h1 : hh < 400) : decide ((-1 : Int32) = nI hh) = false := decide_eq_false (fun z => hm_nIm hh (by omega) z.symm)
theorem hr_rows_bk {k m : hm_M} {nc c t h0 : Nat} (hc : c < nc) (ht : t < 4) (h4 : h0 < 400) (hR : hr_rows k m nc) (hH : hx_H k m nc) (hv : ∀ j, j < 4 * nc → hm_hv (m 15 j)) (h12 : k 12 c = m 12 c) (hx : m 15 (4 * c + t) = -1) (hno : ∀ u, u < 4 → ¬ m 15 (4 * c + u) = nI h0) : hr_rows (hc_bk k c t h0) (hr_set m c t (nI h0)) nc := by
  have b1 : ∀ (x : Int32) (hh : Nat), hh < 400 → (if hh = h0 then x + nI 1 else x) = x + (hr_b (decide (nI h0 = nI hh)) - hr_b (decide (m 15 (4 * c + t) = nI hh))) := fun x hh h1 => by
    rw [hx, hr_bI h1 h4, hr_bm h1]
    by_cases e : hh = h0
    · rw [if_pos e, decide_eq_true e]
      show x + nI 1 = x + (nI 1 - nI 0)
      rw [show nI 1 - nI 0 = nI 1 by decide]
    · rw [if_neg e, decide_eq_false e]
      exact hr_nn x
  refine hr_rows_step hc ht hR hH hv (Or.inr ⟨h0, h4, rfl⟩) ?_ ?_ ?_ ?_ ?_ ?_ ?_
  · intro u hu hut hh h1 z
    rcases z with z | z
    · rw [hx] at z; exact absurd z.symm (hm_nIm hh (by omega))
    · rw [← z]; exact hno u hu
  · intro hh h1
    rw [hc_bk_r (by decide) (by decide) (by decide), hc_es_40 ht, hm_uMo _ _ (by omega), hc_rm_o (by decide)]
    exact b1 _ hh h1
  · intro hh h1
    rw [hc_bk_r (by decide) (by decide) (by decide), hc_es_45 ht, hm_uMo _ _ (by omega), hc_rm_o (by decide)]
    exact b1 _ hh h1
  · intro hh h1
    rw [hc_bk_r (by decide) (by decide) (by decide), hc_es_41 ht, hm_uMo _ _ (by omega), hc_rm_o (by decide)]
    by_cases e : t = 1
    · rw [if_pos e, ← b1 _ hh h1]
      by_cases e2 : hh = h0
      · rw [if_pos ⟨e2, e⟩, if_pos e2]
      · rw [if_neg (fun z => e2 z.1), if_neg e2]
    · rw [if_neg e, if_neg (fun z => e z.2)]
  · intro hh h1
    rw [hc_bk_r (by decide) (by decide) (by decide), hc_es_42 ht, hm_uMo _ _ (by omega), hc_rm_o (by decide)]
    by_cases e : t = 2
    · rw [if_pos e, ← b1 _ hh h1]
      by_cases e2 : hh = h0
      · rw [if_pos ⟨e2, e⟩, if_pos e2]
      · rw [if_neg (fun z => e2 z.1), if_neg e2]
    · rw [if_neg e, if_neg (fun z => e z.2)]
  · intro hh h1
    exact hc_bk_43 ht
  · intro hh h1
    rw [hc_bk_r (by decide) (by decide) (by decide), hc_es_44 ht, hm_uMo _ _ (by omega), hm_uMo _ _ (by omega), hc_rm_o (by decide), hc_rm_o (by decide), h12, hx]
    have e0 : (if (-1 : Int32) = nI hh then m 12 c else nI 0) = nI 0 := if_neg (fun z => hm_nIm hh (by omega) z.symm)
    rw [e0]
    by_cases e : t = 1 ∨ t = 3
    · rw [if_pos e]
      by_cases e2 : hh = h0
      · have e3 : (if nI h0 = nI hh then m 12 c else nI 0) = m 12 c := if_pos (by rw [e2])
        rw [e3, if_pos ⟨e2, e⟩]
        exact hr_r1 _ _
      · have e3 : (if nI h0 = nI hh then m 12 c else nI 0) = nI 0 := if_neg (fun z => e2 (hm_nIinj z (by omega) (by omega)).symm)
        rw [e3, if_neg (fun z => e2 z.1), Int32.sub_self, Int32.add_zero]
    · rw [if_neg e, if_neg (fun z => e z.2)]
theorem hr_rows_tb {k m : hm_M} {nc c t h0 : Nat} (hc : c < nc) (ht : t < 4) (h4 : h0 < 400) (hR : hr_rows k m nc) (hH : hx_H k m nc) (hv : ∀ j, j < 4 * nc → hm_hv (m 15 j)) (h12 : k 12 c = m 12 c) (hx : m 15 (4 * c + t) = nI h0) (hdi : hr_dis m nc) : hr_rows (hc_tb k c t h0) (hr_set m c t (-1)) nc := by
  have b1 : ∀ (x : Int32) (hh : Nat), hh < 400 → (if hh = h0 then x + -1 else x) = x + (hr_b (decide ((-1 : Int32) = nI hh)) - hr_b (decide (m 15 (4 * c + t) = nI hh))) := fun x hh h1 => by
    rw [hx, hr_bI h1 h4, hr_bm h1]
    by_cases e : hh = h0
    · rw [if_pos e, decide_eq_true e]
      show x + -1 = x + (nI 0 - nI 1)
      rw [show nI 0 - nI 1 = -1 by decide]
    · rw [if_neg e, decide_eq_false e]
      exact hr_nn x
  refine hr_rows_step hc ht hR hH hv (Or.inl rfl) ?_ ?_ ?_ ?_ ?_ ?_ ?_
  · intro u hu hut hh h1 z
    rcases z with z | z
    · intro z2
      have q := hdi c hc t u ht hu (fun w => hut w.symm) (by rw [z, z2])
      rw [z] at q
      exact hm_nIm hh (by omega) q
    · exact absurd z.symm (hm_nIm hh (by omega))
  · intro hh h1
    rw [hc_tb_r (by decide) (by decide) (by decide), hc_es_40 ht, hc_rm_o (by decide)]
    exact b1 _ hh h1
  · intro hh h1
    rw [hc_tb_r (by decide) (by decide) (by decide), hc_es_45 ht, hc_rm_o (by decide)]
    exact b1 _ hh h1
  · intro hh h1
    rw [hc_tb_r (by decide) (by decide) (by decide), hc_es_41 ht, hc_rm_o (by decide)]
    by_cases e : t = 1
    · rw [if_pos e, ← b1 _ hh h1]
      by_cases e2 : hh = h0
      · rw [if_pos ⟨e2, e⟩, if_pos e2]
      · rw [if_neg (fun z => e2 z.1), if_neg e2]
    · rw [if_neg e, if_neg (fun z => e z.2)]
  · intro hh h1
    rw [hc_tb_r (by decide) (by decide) (by decide), hc_es_42 ht, hc_rm_o (by decide)]
    by_cases e : t = 2
    · rw [if_pos e, ← b1 _ hh h1]
      by_cases e2 : hh = h0
      · rw [if_pos ⟨e2, e⟩, if_pos e2]
      · rw [if_neg (fun z => e2 z.1), if_neg e2]
    · rw [if_neg e, if_neg (fun z => e z.2)]
  · intro hh h1
    exact hc_tb_43 ht
  · intro hh h1
    rw [hc_tb_r (by decide) (by decide) (by decide), hc_es_44 ht, hc_rm_o (by decide), hc_rm_o (by decide), h12, hx]
    have e0 : (if (-1 : Int32) = nI hh then m 12 c else nI 0) = nI 0 := if_neg (fun z => hm_nIm hh (by omega) z.symm)
    rw [e0]
    by_cases e : t = 1 ∨ t = 3
    · rw [if_pos e]
      by_cases e2 : hh = h0
      · have e3 : (if nI h0 = nI hh then m 12 c else nI 0) = m 12 c := if_pos (by rw [e2])
        rw [e3, if_pos ⟨e2, e⟩]
        exact hr_r2 _ _
      · have e3 : (if nI h0 = nI hh then m 12 c else nI 0) = nI 0 := if_neg (fun z => e2 (hm_nIinj z (by omega) (by omega)).symm)
        rw [e3, if_neg (fun z => e2 z.1), Int32.sub_self, Int32.add_zero]
    · rw [if_neg e, if_neg (fun z => e z.2)]
theorem hr_H_set {k k2 m : hm_M} {nc c t : Nat} {y : Int32} (hH : hx_H k m nc) (ht : t < 4) (h1 : k2 (100 + 2 * c) = upd (k (100 + 2 * c)) t y) (h2 : ∀ x, x < nc → ¬ x = c → k2 (100 + 2 * x) = k (100 + 2 * x)) : hx_H k2 (hr_set m c t y) nc := by
  intro x hx u hu
  rw [hr_set15]
  by_cases hxc : x = c
  · subst hxc
    rw [h1]
    unfold upd
    by_cases e : u = t
    · rw [if_pos e, if_pos (by omega)]
    · rw [if_neg e, if_neg (by omega)]
      exact hH x hx u hu
  · rw [h2 x hx hxc, if_neg (by omega)]
    exact hH x hx u hu
theorem hr_hv_set {m : hm_M} {nc c t : Nat} {y : Int32} (hv : ∀ j, j < 4 * nc → hm_hv (m 15 j)) (hy : hm_hv y) : ∀ j, j < 4 * nc → hm_hv (hr_set m c t y 15 j) := fun j hj => by
  rw [hr_set15]
  by_cases e : j = 4 * c + t
  · rw [if_pos e]; exact hy
  · rw [if_neg e]; exact hv j hj
theorem hr_dis_set {m : hm_M} {nc c t : Nat} {y : Int32} (ht : t < 4) (hd : hr_dis m nc) (hy : y = -1 ∨ ∀ u, u < 4 → ¬ m 15 (4 * c + u) = y) : hr_dis (hr_set m c t y) nc := by
  intro x hx a b ha hb hab e
  rw [hr_set15, hr_set15] at e
  rw [hr_set15]
  by_cases h1 : 4 * x + a = 4 * c + t
  · rw [if_pos h1]
    rw [if_pos h1, if_neg (by omega)] at e
    rcases hy with h | h
    · exact h
    · exact absurd (by rw [show 4 * c + b = 4 * x + b by omega]; exact e.symm) (h b hb)
  · rw [if_neg h1]
    rw [if_neg h1] at e
    by_cases h2 : 4 * x + b = 4 * c + t
    · rw [if_pos h2] at e
      rcases hy with h | h
      · rw [e]; exact h
      · exact absurd (by rw [show 4 * c + a = 4 * x + a by omega]; exact e) (h a ha)
    · rw [if_neg h2] at e
      exact hd x hx a b ha hb hab e
theorem hr_cnt_set {m : hm_M} {nc c t : Nat} {y : Int32} {P : Int32 → Bool} (hc : c < nc) (ht : t < 4) : hm_cnt (fun j => P (hr_set m c t y 15 j)) (4 * nc) + (if P (m 15 (4 * c + t)) = true then 1 else 0) = hm_cnt (fun j => P (m 15 j)) (4 * nc) + (if P y = true then 1 else 0) := by
  have e := hr_cnt1 (P := fun j => P (m 15 j)) (P2 := fun j => P (hr_set m c t y 15 j)) (c := 4 * c + t) (4 * nc) (by omega) (fun x _ hx => by
    show P (hr_set m c t y 15 x) = _
    rw [hr_set15, if_neg hx])
  have e2 : hr_set m c t y 15 (4 * c + t) = y := hr_set_e
  rw [e2] at e
  exact e
/-- a promise is taken back -/
theorem hr_U_tb {k m : hm_M} {nc nb c t h0 : Nat} (U : hr_U k m nc nb) (hc : c < nc) (ht : t < 4) (h4 : h0 < 400) (h12 : k 12 c = m 12 c) (hx : m 15 (4 * c + t) = nI h0) : hr_U (hc_tb k c t h0) (hr_set m c t (-1)) nc nb := by
  obtain ⟨hH, hv, hd, ⟨c0, hc0, hc4, hcn⟩, hR, hS, h31⟩ := U
  have oth : ∀ x, x < nc → ¬ x = c → hc_tb k c t h0 (100 + 2 * x) = k (100 + 2 * x) := fun x _ hxc => hc_tb_o (by omega) (by omega) (by omega) (by omega)
  refine ⟨hr_H_set hH ht hc_tb_H oth, hr_hv_set hv (Or.inl rfl), hr_dis_set ht hd (Or.inl rfl), ⟨c0, hc0, hc4, ?_⟩, hr_rows_tb hc ht h4 hR hH hv h12 hx hd, ?_, ?_⟩
  · intro hh h1
    have e := hr_cnt_set (m := m) (nc := nc) (c := c) (t := t) (y := -1) (P := fun x => decide (x = nI hh)) hc ht
    have e2 : decide ((-1 : Int32) = nI hh) = false := hr_bm h1
    have e3 := hcn hh h1
    rw [e2, if_neg (show ¬ (false = true) by decide)] at e
    omega
  · intro hh h1
    refine hx_sat_sub ((hr_sub nc ?_).map _) _ (hS hh h1)
    intro x hx hcar
    unfold hc_car at hcar ⊢
    rw [decide_eq_true_iff] at hcar ⊢
    by_cases hxc : x = c
    · subst hxc
      rw [hc_tb_H] at hcar
      unfold upd at hcar
      rcases hcar with h | h
      · by_cases e : 1 = t
        · rw [if_pos e] at h; exact absurd h.symm (hm_nIm hh (by omega))
        · rw [if_neg e] at h; exact Or.inl h
      · by_cases e : 3 = t
        · rw [if_pos e] at h; exact absurd h.symm (hm_nIm hh (by omega))
        · rw [if_neg e] at h; exact Or.inr h
    · rw [oth x hx hxc] at hcar
      exact hcar
  · have e := hr_cnt_set (m := m) (nc := nc) (c := c) (t := t) (y := -1) (P := fun x => decide (¬ x < 0)) hc ht
    have e1 : decide (¬ (-1 : Int32) < 0) = false := by decide
    have e2 : decide (¬ m 15 (4 * c + t) < 0) = true := by
      rw [hx]
      refine decide_eq_true (fun z => ?_)
      rw [Int32.lt_iff_toInt_lt, nI_toInt (by omega)] at z
      have z2 : (h0 : Int) < 0 := z
      omega
    have e3 : hm_cnt (fun j => decide (¬ hr_set m c t (-1) 15 j < 0)) (4 * nc) + (if decide (¬ m 15 (4 * c + t) < 0) = true then 1 else 0) = hm_cnt (fun j => decide (¬ m 15 j < 0)) (4 * nc) + (if decide (¬ (-1 : Int32) < 0) = true then 1 else 0) := e
    rw [e1, e2, if_pos rfl, if_neg (show ¬ (false = true) by decide)] at e3
    rw [hc_tb_31, h31, ← Nat.add_zero (hm_cnt (fun j => decide (¬ m 15 j < 0)) (4 * nc)), ← e3, ← nI_add]
    exact hr_r3 _
/-- a promise is made -/
theorem hr_U_bk {k m : hm_M} {nc nb c t h0 : Nat} (U : hr_U k m nc nb) (hc : c < nc) (ht : t < 4) (h4 : h0 < 400) (h12 : k 12 c = m 12 c) (hx : m 15 (4 * c + t) = -1) (hno : ∀ u, u < 4 → ¬ m 15 (4 * c + u) = nI h0) (hcar0 : nI (hm_tkn m nc 0 h0) < m 0 0) (hsat : (t = 1 ∨ t = 3) → hx_sat ((hc_wl k (nI h0) nc ++ [c]).map (hr_F m nc nb)) (nI 0)) : hr_U (hc_bk k c t h0) (hr_set m c t (nI h0)) nc nb := by
  obtain ⟨hH, hv, hd, ⟨c0, hc0, hc4, hcn⟩, hR, hS, h31⟩ := U
  have oth : ∀ x, x < nc → ¬ x = c → hc_bk k c t h0 (100 + 2 * x) = k (100 + 2 * x) := fun x _ hxc => hc_bk_o (by omega) (by omega) (by omega)
  refine ⟨hr_H_set hH ht hc_bk_H oth, hr_hv_set hv (Or.inr ⟨h0, h4, rfl⟩), hr_dis_set ht hd (Or.inr hno), ⟨c0, hc0, hc4, ?_⟩, hr_rows_bk hc ht h4 hR hH hv h12 hx hno, ?_, ?_⟩
  · intro hh h1
    have e := hr_cnt_set (m := m) (nc := nc) (c := c) (t := t) (y := nI h0) (P := fun x => decide (x = nI hh)) hc ht
    have e2 : hm_cnt (fun j => decide (hr_set m c t (nI h0) 15 j = nI hh)) (4 * nc) + (if decide (m 15 (4 * c + t) = nI hh) = true then 1 else 0) = hm_cnt (fun j => decide (m 15 j = nI hh)) (4 * nc) + (if decide (nI h0 = nI hh) = true then 1 else 0) := e
    rw [hx, hr_bm h1, hr_bI h1 h4, if_neg (show ¬ (false = true) by decide)] at e2
    have e3 := hcn hh h1
    by_cases h5 : hh = h0
    · subst h5
      rw [hr_tkn, hc0, Int32.lt_iff_toInt_lt, nI_toInt (by omega), nI_toInt (by omega)] at hcar0
      rw [decide_eq_true rfl, if_pos rfl] at e2
      omega
    · rw [decide_eq_false h5, if_neg (show ¬ (false = true) by decide)] at e2
      omega
  · intro hh h1
    have hother : ∀ x, x < nc → ¬ x = c → hc_car (hc_bk k c t h0) (nI hh) x = hc_car k (nI hh) x := fun x hx hxc => by
      unfold hc_car
      rw [oth x hx hxc]
    have hcc : hc_car (hc_bk k c t h0) (nI hh) c = decide (((t = 1 ∨ t = 3) ∧ hh = h0) ∨ (k (100 + 2 * c) 1 = nI hh ∨ k (100 + 2 * c) 3 = nI hh)) := by
      unfold hc_car
      rw [hc_bk_H]
      refine decide_eq_decide.mpr ?_
      unfold upd
      have kt : k (100 + 2 * c) t = -1 := by rw [hH c hc t ht]; exact hx
      have nm : ¬ (-1 : Int32) = nI hh := fun z => hm_nIm hh (by omega) z.symm
      have ii : nI h0 = nI hh ↔ hh = h0 := ⟨fun z => (hm_nIinj z (by omega) (by omega)).symm, fun z => by rw [z]⟩
      by_cases t1 : 1 = t
      · rw [if_pos t1, if_neg (by omega), ii]
        constructor
        · rintro (h | h)
          · exact Or.inl ⟨by omega, h⟩
          · exact Or.inr (Or.inr h)
        · rintro (h | h | h)
          · exact Or.inl h.2
          · exact absurd (by rw [← t1] at kt; rw [← kt]; exact h) nm
          · exact Or.inr h
      · rw [if_neg t1]
        by_cases t3 : 3 = t
        · rw [if_pos t3, ii]
          constructor
          · rintro (h | h)
            · exact Or.inr (Or.inl h)
            · exact Or.inl ⟨by omega, h⟩
          · rintro (h | h | h)
            · exact Or.inr h.2
            · exact Or.inl h
            · exact absurd (by rw [← t3] at kt; rw [← kt]; exact h) nm
        · rw [if_neg t3]
          constructor
          · intro h; exact Or.inr h
          · rintro (h | h)
            · omega
            · exact h
    have hc0f : hh = h0 → hc_car k (nI hh) c = false := fun e => by
      unfold hc_car
      rw [hH c hc 1 (by decide), hH c hc 3 (by decide), e]
      exact decide_eq_false (fun z => z.elim (hno 1 (by decide)) (hno 3 (by decide)))
    have hF : hr_F (hr_set m c t (nI h0)) nc nb = hr_F m nc nb := rfl
    rw [hF]
    by_cases e : (t = 1 ∨ t = 3) ∧ hh = h0
    · have p := hr_more (k := k) (k2 := hc_bk k c t h0) (hour := nI hh) (hc0f e.2) (by rw [hcc]; exact decide_eq_true (Or.inl e)) nc hother
      rw [if_pos hc] at p
      refine (hx_sat_perm (p.map _) _).mpr ?_
      rw [e.2]
      exact hsat e.1
    · rw [hr_same (k := k) (k2 := hc_bk k c t h0) (hour := nI hh) nc (fun x hx => by
        by_cases hxc : x = c
        · rw [hxc, hcc]
          unfold hc_car
          exact decide_eq_decide.mpr ⟨fun z => z.elim (fun z => absurd z e) id, fun z => Or.inr z⟩
        · exact hother x hx hxc)]
      exact hS hh h1
  · have e := hr_cnt_set (m := m) (nc := nc) (c := c) (t := t) (y := nI h0) (P := fun x => decide (¬ x < 0)) hc ht
    have e1 : decide (¬ (-1 : Int32) < 0) = false := by decide
    have e2 : decide (¬ nI h0 < 0) = true := by
      refine decide_eq_true (fun z => ?_)
      rw [Int32.lt_iff_toInt_lt, nI_toInt (by omega)] at z
      have z2 : (h0 : Int) < 0 := z
      omega
    have e3 : hm_cnt (fun j => decide (¬ hr_set m c t (nI h0) 15 j < 0)) (4 * nc) + (if decide (¬ m 15 (4 * c + t) < 0) = true then 1 else 0) = hm_cnt (fun j => decide (¬ m 15 j < 0)) (4 * nc) + (if decide (¬ nI h0 < 0) = true then 1 else 0) := e
    rw [hx, e1, e2, if_pos rfl, if_neg (show ¬ (false = true) by decide), Nat.add_zero] at e3
    rw [hc_bk_31, h31, e3, ← nI_add]
