/-! THE MODEL'S LISTS OF SETS: the rising rows in their order -/
def hx_p (ht : Nat → Int32) (sp : Int32) (mn : Nat) (f : Nat → Nat) : List Int32 := if sp < (hm_l1 ht f mn 0 (nI 999) (nI 0) (nI 0)).2.1 - (hm_l1 ht f mn 0 (nI 999) (nI 0) (nI 0)).1 then [] else [(hm_l1 ht f mn 0 (nI 999) (nI 0) (nI 0)).2.2]
theorem hx_lz (ht : Nat → Int32) (sp : Int32) (mn : Nat) (f : Nat → Nat) (L : List Int32) : hm_lz ht sp mn f L = L ++ hx_p ht sp mn f := by
  unfold hm_lz hx_p
  split
  · rw [List.append_nil]
  · rfl
theorem hx_l1_c {ht : Nat → Int32} {f g : Nat → Nat} : ∀ (k j : Nat) (lo hi st : Int32), (∀ i, j ≤ i → i < j + k → f i = g i) → hm_l1 ht f k j lo hi st = hm_l1 ht g k j lo hi st := by
  intro k
  induction k with
  | zero => intro j lo hi st _; rfl
  | succ k ih =>
    intro j lo hi st h
    unfold hm_l1
    rw [h j (by omega) (by omega)]
    exact ih (j + 1) _ _ _ (fun i h1 h2 => h i (by omega) (by omega))
theorem hx_p_c {ht : Nat → Int32} {sp : Int32} {mn : Nat} {f g : Nat → Nat} (h : ∀ i, i < mn → f i = g i) : hx_p ht sp mn f = hx_p ht sp mn g := by
  unfold hx_p
  rw [hx_l1_c mn 0 _ _ _ (fun i _ h2 => h i (by omega))]
theorem hx_nk_c {f g : Nat → Nat} {mn nb : Nat} : ∀ j, (∀ i, i < j → f i = g i) → hm_nk f mn nb j = hm_nk g mn nb j := by
  intro j
  induction j with
  | zero => intro _; rfl
  | succ j ih =>
    intro h
    unfold hm_nk
    rw [h j (by omega), ih (fun i hi => h i (by omega))]
theorem hx_nk_le {f : Nat → Nat} {mn nb : Nat} : ∀ j, hm_nk f mn nb j ≤ j := by
  intro j
  induction j with
  | zero => exact Nat.le_refl _
  | succ j ih =>
    unfold hm_nk
    split
    · omega
    · omega
theorem hx_ls_c {ht : Nat → Int32} {sp : Int32} {mn nb : Nat} : ∀ (k : Nat) (f g : Nat → Nat) (L : List Int32), (∀ i, i < mn → f i = g i) → hm_ls ht sp mn nb k f L = hm_ls ht sp mn nb k g L := by
  intro k
  induction k with
  | zero => intro f g L _; rfl
  | succ k ih =>
    intro f g L h
    unfold hm_ls
    rw [hx_nk_c mn h, hx_lz, hx_lz, hx_p_c h]
    have hle := hx_nk_le (f := g) (mn := mn) (nb := nb) mn
    cases hk : hm_nk g mn nb mn with
    | zero => rfl
    | succ j =>
      dsimp only
      refine ih _ _ _ (fun i hi => ?_)
      rw [hk] at hle
      show (if i < j then f i else f j + 1 + (i - j)) = (if i < j then g i else g j + 1 + (i - j))
      rw [h i hi, h j (by omega)]
def hx_fs (f : Nat → Nat) (a v : Nat) : Nat → Nat := fun i => if i = a then v else f i
/-- the rows: l places are open, their values r from the end -/
def hx_en (mn nb : Nat) : Nat → Nat → (Nat → Nat) → List (Nat → Nat)
  | 0, _, f => [f]
  | _ + 1, 0, _ => []
  | l + 1, r + 1, f => hx_en mn nb l r (hx_fs f (mn - (l + 1)) (nb - (r + 1))) ++ hx_en mn nb (l + 1) r f
theorem hx_en_nil {mn nb : Nat} : ∀ (r l : Nat) (f : Nat → Nat), r < l → hx_en mn nb l r f = [] := by
  intro r
  induction r with
  | zero =>
    intro l f h
    cases l with
    | zero => omega
    | succ l => unfold hx_en; rfl
  | succ r ih =>
    intro l f h
    cases l with
    | zero => omega
    | succ l =>
      unfold hx_en
      rw [ih l _ (by omega), ih (l + 1) _ (by omega)]
      rfl
def hx_fi (mn nb l r : Nat) (f : Nat → Nat) : Nat → Nat := fun i => if mn - l ≤ i ∧ i < mn then nb - r + (i - (mn - l)) else f i
def hx_la (mn nb l : Nat) (f : Nat → Nat) : Nat → Nat := fun i => if mn - l ≤ i ∧ i < mn then nb - mn + i else f i
def hx_co (ht : Nat → Int32) (sp : Int32) (mn nb k : Nat) (g : Nat → Nat) (L : List Int32) : Option (List Int32) := match hm_nk g mn nb mn with
  | 0 => some L
  | j + 1 => hm_ls ht sp mn nb k (hm_nx g j) L
theorem hx_nk_at {g : Nat → Nat} {mn nb a : Nat} (ha : ¬ g a = nb - mn + a) : ∀ j, a < j → (∀ i, a < i → i < j → g i = nb - mn + i) → hm_nk g mn nb j = a + 1 := by
  intro j
  induction j with
  | zero => intro h; omega
  | succ j ih =>
    intro h hm
    unfold hm_nk
    by_cases hj : j = a
    · subst hj
      rw [if_neg ha]
    · rw [if_pos (hm j (by omega) (by omega))]
      exact ih (by omega) (fun i h1 h2 => hm i h1 (by omega))
theorem hx_nk_0 {g : Nat → Nat} {mn nb : Nat} : ∀ j, (∀ i, i < j → g i = nb - mn + i) → hm_nk g mn nb j = 0 := by
  intro j
  induction j with
  | zero => intro _; rfl
  | succ j ih =>
    intro h
    unfold hm_nk
    rw [if_pos (h j (by omega))]
    exact ih (fun i hi => h i (by omega))
theorem hx_run {ht : Nat → Int32} {sp : Int32} {mn nb : Nat} (hmb : mn ≤ nb) : ∀ (r l : Nat) (f : Nat → Nat) (k : Nat) (L : List Int32), l ≤ r → l ≤ mn → r ≤ nb → nb + l ≤ r + nb → hm_ls ht sp mn nb (k + (hx_en mn nb l r f).length) (hx_fi mn nb l r f) L = hx_co ht sp mn nb k (hx_la mn nb l f) (L ++ (hx_en mn nb l r f).flatMap (hx_p ht sp mn)) := by
  intro r
  induction r with
  | zero =>
    intro l f k L hl _ _ _
    have h0 : l = 0 := by omega
    subst h0
    have e1 : hx_fi mn nb 0 0 f = f := by funext i; exact if_neg (by omega)
    have e2 : hx_la mn nb 0 f = f := by funext i; exact if_neg (by omega)
    rw [e1, e2, show hx_en mn nb 0 0 f = [f] by unfold hx_en; rfl]
    show hm_ls ht sp mn nb (k + 1) f L = _
    unfold hm_ls hx_co
    rw [hx_lz, List.flatMap_singleton]
    cases hm_nk f mn nb mn <;> rfl
  | succ r ih =>
    intro l f k L hl hlm hrn _
    cases l with
    | zero =>
      have e1 : hx_fi mn nb 0 (r + 1) f = f := by funext i; exact if_neg (by omega)
      have e2 : hx_la mn nb 0 f = f := by funext i; exact if_neg (by omega)
      rw [e1, e2, show hx_en mn nb 0 (r + 1) f = [f] by unfold hx_en; rfl]
      show hm_ls ht sp mn nb (k + 1) f L = _
      unfold hm_ls hx_co
      rw [hx_lz, List.flatMap_singleton]
      cases hm_nk f mn nb mn <;> rfl
    | succ l =>
      have en : hx_en mn nb (l + 1) (r + 1) f = hx_en mn nb l r (hx_fs f (mn - (l + 1)) (nb - (r + 1))) ++ hx_en mn nb (l + 1) r f := by
        show hx_en mn nb (l + 1) (r + 1) f = _
        rw [hx_en]
      have e1 : hx_fi mn nb (l + 1) (r + 1) f = hx_fi mn nb l r (hx_fs f (mn - (l + 1)) (nb - (r + 1))) := by
        funext i
        show (if mn - (l + 1) ≤ i ∧ i < mn then nb - (r + 1) + (i - (mn - (l + 1))) else f i) = (if mn - l ≤ i ∧ i < mn then nb - r + (i - (mn - l)) else if i = mn - (l + 1) then nb - (r + 1) else f i)
        by_cases h1 : mn - l ≤ i ∧ i < mn
        · rw [if_pos h1, if_pos (by omega)]
          omega
        · rw [if_neg h1]
          by_cases h2 : i = mn - (l + 1)
          · rw [if_pos h2, if_pos (by omega)]
            omega
          · rw [if_neg h2, if_neg (by omega)]
      rw [en, List.length_append, List.flatMap_append, e1, show k + ((hx_en mn nb l r (hx_fs f (mn - (l + 1)) (nb - (r + 1)))).length + (hx_en mn nb (l + 1) r f).length) = (k + (hx_en mn nb (l + 1) r f).length) + (hx_en mn nb l r (hx_fs f (mn - (l + 1)) (nb - (r + 1)))).length by omega, ih l _ _ _ (by omega) (by omega) (by omega) (by omega)]
      rcases Nat.lt_or_ge l r with hlr | hlr
      · have hg : hx_la mn nb l (hx_fs f (mn - (l + 1)) (nb - (r + 1))) (mn - (l + 1)) = nb - (r + 1) := (if_neg (by omega)).trans (if_pos rfl)
        have hk := hx_nk_at (g := hx_la mn nb l (hx_fs f (mn - (l + 1)) (nb - (r + 1)))) (mn := mn) (nb := nb) (a := mn - (l + 1)) (by rw [hg]; omega) mn (by omega) (fun i h1 h2 => if_pos (by omega))
        have e3 := ih (l + 1) f k (L ++ (hx_en mn nb l r (hx_fs f (mn - (l + 1)) (nb - (r + 1)))).flatMap (hx_p ht sp mn)) (by omega) hlm (by omega) (by omega)
        rw [List.append_assoc] at e3
        rw [← e3]
        unfold hx_co
        rw [hk]
        dsimp only
        refine hx_ls_c _ _ _ _ (fun i hi => ?_)
        show (if i < mn - (l + 1) then hx_la mn nb l (hx_fs f (mn - (l + 1)) (nb - (r + 1))) i else hx_la mn nb l (hx_fs f (mn - (l + 1)) (nb - (r + 1))) (mn - (l + 1)) + 1 + (i - (mn - (l + 1)))) = (if mn - (l + 1) ≤ i ∧ i < mn then nb - r + (i - (mn - (l + 1))) else f i)
        rw [hg]
        by_cases h1 : i < mn - (l + 1)
        · rw [if_pos h1, if_neg (by omega)]
          exact (if_neg (by omega)).trans (if_neg (by omega))
        · rw [if_neg h1, if_pos (by omega)]
          omega
      · have hrl : r = l := by omega
        subst hrl
        rw [hx_en_nil r (r + 1) f (by omega)]
        have e4 : hx_la mn nb r (hx_fs f (mn - (r + 1)) (nb - (r + 1))) = hx_la mn nb (r + 1) f := by
          funext i
          show (if mn - r ≤ i ∧ i < mn then nb - mn + i else if i = mn - (r + 1) then nb - (r + 1) else f i) = (if mn - (r + 1) ≤ i ∧ i < mn then nb - mn + i else f i)
          by_cases h1 : mn - r ≤ i ∧ i < mn
          · rw [if_pos h1, if_pos (by omega)]
          · rw [if_neg h1]
            by_cases h2 : i = mn - (r + 1)
            · rw [if_pos h2, if_pos (by omega)]
              omega
            · rw [if_neg h2, if_neg (by omega)]
        rw [e4, List.flatMap_nil, List.append_nil]
        rfl
def hx_id : Nat → Nat := fun i => i
/-- the list of a case's sets -/
def hx_LL (ht : Nat → Int32) (sp : Int32) (mn nb : Nat) : List Int32 := (hx_en mn nb mn nb hx_id).flatMap (hx_p ht sp mn)
theorem hx_LL_ok (ht : Nat → Int32) (sp : Int32) (mn nb : Nat) : hm_LL ht sp mn nb (hx_LL ht sp mn nb) := by
  rcases Nat.lt_or_ge nb mn with h | h
  · refine Or.inl ⟨h, ?_⟩
    unfold hx_LL
    rw [hx_en_nil nb mn _ h]
    rfl
  · refine Or.inr ⟨h, (hx_en mn nb mn nb hx_id).length, ?_⟩
    have e := hx_run (ht := ht) (sp := sp) h nb mn hx_id 0 [] h (Nat.le_refl _) (Nat.le_refl _) (by omega)
    rw [Nat.zero_add] at e
    rw [hx_ls_c _ (fun i => i) (hx_fi mn nb mn nb hx_id) [] (fun i hi => by
      show i = (if mn - mn ≤ i ∧ i < mn then nb - nb + (i - (mn - mn)) else i)
      rw [if_pos (by omega)]
      omega), e]
    unfold hx_co
    rw [hx_nk_0 (g := hx_la mn nb mn hx_id) mn (fun i hi => if_pos (by omega)), List.nil_append]
    rfl
def hx_ct : Nat → Nat → Nat
  | 0, _ => 1
  | _ + 1, 0 => 0
  | l + 1, r + 1 => hx_ct l r + hx_ct (l + 1) r
theorem hx_en_len {mn nb : Nat} : ∀ (r l : Nat) (f : Nat → Nat), (hx_en mn nb l r f).length = hx_ct l r := by
  intro r
  induction r with
  | zero =>
    intro l f
    cases l with
    | zero => unfold hx_en hx_ct; rfl
    | succ l => unfold hx_en hx_ct; rfl
  | succ r ih =>
    intro l f
    cases l with
    | zero => unfold hx_en hx_ct; rfl
    | succ l =>
      rw [hx_en, hx_ct, List.length_append, ih, ih]
theorem hx_ct_le : ∀ (l : Fin 7) (r : Fin 13), hx_ct l.val r.val ≤ 924 := by decide +kernel
theorem hx_fm_le {α : Type} {p : α → List Int32} (hp : ∀ a, (p a).length ≤ 1) : ∀ L : List α, (L.flatMap p).length ≤ L.length := by
  intro L
  induction L with
  | nil => exact Nat.le_refl _
  | cons a L ih =>
    rw [List.flatMap_cons, List.length_append, List.length_cons]
    have := hp a
    omega
theorem hx_LL_len {ht : Nat → Int32} {sp : Int32} {mn nb : Nat} (hm : mn ≤ 6) (hb : nb ≤ 12) : (hx_LL ht sp mn nb).length ≤ 924 := by
  refine Nat.le_trans (hx_fm_le (fun f => ?_) _) ?_
  · unfold hx_p
    split
    · exact Nat.zero_le _
    · exact Nat.le_refl _
  · rw [hx_en_len]
    exact hx_ct_le ⟨mn, by omega⟩ ⟨nb, by omega⟩
