/-! WHAT KEEPS THE TAKERS CARRIED -/
theorem hr_sub {k k2 : hm_M} {hour : Int32} : ∀ n, (∀ x, x < n → hc_car k2 hour x = true → hc_car k hour x = true) → List.Sublist (hc_wl k2 hour n) (hc_wl k hour n) := by
  intro n
  induction n with
  | zero => intro _; exact List.Sublist.refl _
  | succ n ih =>
    intro h
    have i := ih (fun x hx => h x (by omega))
    show List.Sublist (if hc_car k2 hour n = true then hc_wl k2 hour n ++ [n] else hc_wl k2 hour n) (if hc_car k hour n = true then hc_wl k hour n ++ [n] else hc_wl k hour n)
    by_cases h2 : hc_car k2 hour n = true
    · rw [if_pos h2, if_pos (h n (by omega) h2)]
      exact List.Sublist.append i (List.Sublist.refl _)
    · rw [if_neg h2]
      by_cases h1 : hc_car k hour n = true
      · rw [if_pos h1]
        exact i.trans (List.sublist_append_left _ _)
      · rw [if_neg h1]
        exact i
theorem hr_same {k k2 : hm_M} {hour : Int32} : ∀ n, (∀ x, x < n → hc_car k2 hour x = hc_car k hour x) → hc_wl k2 hour n = hc_wl k hour n := by
  intro n
  induction n with
  | zero => intro _; rfl
  | succ n ih =>
    intro h
    show (if hc_car k2 hour n = true then hc_wl k2 hour n ++ [n] else hc_wl k2 hour n) = (if hc_car k hour n = true then hc_wl k hour n ++ [n] else hc_wl k hour n)
    rw [ih (fun x hx => h x (by omega)), h n (by omega)]
theorem hr_more {k k2 : hm_M} {hour : Int32} {c : Nat} (hc1 : hc_car k hour c = false) (hc2 : hc_car k2 hour c = true) : ∀ n, (∀ x, x < n → ¬ x = c → hc_car k2 hour x = hc_car k hour x) → List.Perm (hc_wl k2 hour n) (if c < n then hc_wl k hour n ++ [c] else hc_wl k hour n) := by
  intro n
  induction n with
  | zero => intro _; exact List.Perm.refl _
  | succ n ih =>
    intro h
    have i := ih (fun x hx => h x (by omega))
    show List.Perm (if hc_car k2 hour n = true then hc_wl k2 hour n ++ [n] else hc_wl k2 hour n) (if c < n + 1 then (if hc_car k hour n = true then hc_wl k hour n ++ [n] else hc_wl k hour n) ++ [c] else (if hc_car k hour n = true then hc_wl k hour n ++ [n] else hc_wl k hour n))
    by_cases hn : n = c
    · rw [hn, if_pos hc2, if_pos (show c < c + 1 by omega), if_neg (by rw [hc1]; decide)]
      rw [hn, if_neg (show ¬ c < c by omega)] at i
      exact i.append_right [c]
    · rw [h n (by omega) hn]
      by_cases hlt : c < n
      · rw [if_pos (show c < n + 1 by omega)]
        rw [if_pos hlt] at i
        by_cases h1 : hc_car k hour n = true
        · rw [if_pos h1, if_pos h1]
          refine (i.append_right [n]).trans ?_
          rw [List.append_assoc, List.append_assoc]
          exact List.Perm.append_left _ List.perm_append_comm
        · rw [if_neg h1, if_neg h1]
          exact i
      · rw [if_neg (show ¬ c < n + 1 by omega)]
        rw [if_neg hlt] at i
        by_cases h1 : hc_car k hour n = true
        · rw [if_pos h1, if_pos h1]
          exact i.append_right [n]
        · rw [if_neg h1, if_neg h1]
          exact i
theorem hr_sat_up {F F2 : Nat → List Int32} : ∀ (L : List Nat) (u : Int32), (∀ c, c ∈ L → ∀ x, x ∈ F c → x ∈ F2 c) → hx_sat (L.map F) u → hx_sat (L.map F2) u := by
  intro L
  induction L with
  | nil => intro _ _ _; exact True.intro
  | cons c L ih =>
    intro u h hs
    obtain ⟨y, hy, h1, h2⟩ := hs
    exact ⟨y, h c List.mem_cons_self y hy, h1, ih _ (fun c2 hc2 => h c2 (List.mem_cons_of_mem _ hc2)) h2⟩
theorem hr_en_all {mn nb : Nat} : ∀ (r l : Nat) (f h : Nat → Nat), l ≤ mn → r ≤ nb → (∀ j, j < mn - l → h j = f j) → (∀ j, mn - l ≤ j → j < mn → nb - r ≤ h j ∧ h j < nb) → (∀ i j, mn - l ≤ i → i < j → j < mn → h i < h j) → ∃ g, g ∈ hx_en mn nb l r f ∧ ∀ j, j < mn → g j = h j := by
  intro r
  induction r with
  | zero =>
    intro l f h hl _ hp hb hr
    cases l with
    | zero => exact ⟨f, List.mem_singleton.mpr rfl, fun j hj => (hp j (by omega)).symm⟩
    | succ l => exact absurd (hb (mn - (l + 1)) (Nat.le_refl _) (by omega)) (by omega)
  | succ r ih =>
    intro l f h hl hrn hp hb hr
    cases l with
    | zero => exact ⟨f, List.mem_singleton.mpr rfl, fun j hj => (hp j (by omega)).symm⟩
    | succ l =>
      have b0 := hb (mn - (l + 1)) (Nat.le_refl _) (by omega)
      by_cases he : h (mn - (l + 1)) = nb - (r + 1)
      · obtain ⟨g, hg, e⟩ := ih l (hx_fs f (mn - (l + 1)) (nb - (r + 1))) h (by omega) (by omega) (fun j hj => by
          unfold hx_fs
          by_cases hj2 : j = mn - (l + 1)
          · rw [if_pos hj2, hj2]; exact he
          · rw [if_neg hj2]; exact hp j (by omega)) (fun j h1 h2 => by
          have q1 := hr (mn - (l + 1)) j (Nat.le_refl _) (by omega) h2
          have q2 := hb j (by omega) h2
          omega) (fun i j h1 h2 h3 => hr i j (by omega) h2 h3)
        exact ⟨g, List.mem_append.mpr (Or.inl hg), e⟩
      · obtain ⟨g, hg, e⟩ := ih (l + 1) f h hl (by omega) hp (fun j h1 h2 => by
          have q2 := hb j h1 h2
          by_cases hj : j = mn - (l + 1)
          · rw [hj]; omega
          · have q1 := hr (mn - (l + 1)) j (Nat.le_refl _) (by omega) h2
            omega) hr
        exact ⟨g, List.mem_append.mpr (Or.inr hg), e⟩
theorem hr_l1_h {ht ht2 : Nat → Int32} {f : Nat → Nat} : ∀ (k j : Nat) (lo hi st : Int32), (∀ i, j ≤ i → i < j + k → ht (f i) = ht2 (f i)) → hm_l1 ht f k j lo hi st = hm_l1 ht2 f k j lo hi st := by
  intro k
  induction k with
  | zero => intro _ _ _ _ _; rfl
  | succ k ih =>
    intro j lo hi st h
    show hm_l1 ht f k (j + 1) _ _ _ = hm_l1 ht2 f k (j + 1) _ _ _
    rw [h j (Nat.le_refl _) (by omega)]
    exact ih (j + 1) _ _ _ (fun i h1 h2 => h i (by omega) (by omega))
theorem hr_p_h {ht ht2 : Nat → Int32} {sp : Int32} {mn : Nat} {f : Nat → Nat} (h : ∀ i, i < mn → ht (f i) = ht2 (f i)) : hx_p ht sp mn f = hx_p ht2 sp mn f := by
  unfold hx_p
  rw [hr_l1_h mn 0 _ _ _ (fun i _ hi => h i (by omega))]
theorem hr_LL_up {ht ht2 : Nat → Int32} {sp : Int32} {mn nb : Nat} (h : ∀ i, i < nb → ht i = ht2 i) {x : Int32} (hx : x ∈ hx_LL ht sp mn nb) : x ∈ hx_LL ht2 sp mn (nb + 1) := by
  obtain ⟨g, hg, hxg⟩ := List.mem_flatMap.mp hx
  have hlt := hx_en_lt' hg
  have hri := (hx_en_rise nb mn hx_id g hg (Nat.le_refl _) (Nat.le_refl _)).2
  obtain ⟨g2, hg2, e2⟩ := hr_en_all (mn := mn) (nb := nb + 1) (nb + 1) mn hx_id g (Nat.le_refl _) (Nat.le_refl _) (fun j hj => absurd hj (by omega)) (fun j _ hj => ⟨by omega, by have := hlt j hj; omega⟩) (fun i j h1 h2 h3 => hri i j (by omega) h2 h3)
  refine List.mem_flatMap.mpr ⟨g2, hg2, ?_⟩
  rw [hx_p_c e2, ← hr_p_h (ht := ht) (fun i hi => h _ (hlt i hi))]
  exact hxg
/-- one more bearer -/
theorem hr_F_up {m m2 : hm_M} {nc nb c : Nat} (h3 : ∀ i, i < nb → m 3 i = m2 3 i) (h12 : m2 12 = m 12) (h13 : m2 13 = m 13) {x : Int32} (hx : x ∈ hr_F m nc nb c) : x ∈ hr_F m2 nc (nb + 1) c := by
  unfold hr_F at hx ⊢
  by_cases hc : c < nc
  · rw [if_pos hc] at hx ⊢
    rw [h12, h13]
    exact hr_LL_up h3 hx
  · rw [if_neg hc] at hx
    exact absurd hx List.not_mem_nil
