/-! THE CLASS'S SEARCH OVER THE SAME ROWS -/
def hx_first {β : Type} (g : Int32 → Option β) : List Int32 → Option β
  | [] => none
  | x :: L => match g x with
    | some p => some p
    | none => hx_first g L
theorem hx_first_app {β : Type} {g : Int32 → Option β} : ∀ (A B : List Int32), hx_first g (A ++ B) = (match hx_first g A with | some p => some p | none => hx_first g B) := by
  intro A
  induction A with
  | nil => intro B; rfl
  | cons x A ih =>
    intro B
    show (match g x with | some p => some p | none => hx_first g (A ++ B)) = (match (match g x with | some p => some p | none => hx_first g A) with | some p => some p | none => hx_first g B)
    cases g x with
    | some p => rfl
    | none => exact ih B
theorem hx_lkh {ht : Nat → Int32} {sp : Int32} {one : Nat} : ∀ (n i : Nat), i < 12 → n ≤ 12 → hm_has (hc_lkh ht sp one n) (nI i) = (decide (i < n) && decide (hc_abs (ht i - ht one) ≤ sp)) := by
  intro n
  induction n with
  | zero =>
    intro i hi _
    show hm_has (nI 0) (nI i) = _
    rw [hc_has_0 ⟨i, by omega⟩, decide_eq_false (by omega)]
    rfl
  | succ n ih =>
    intro i hi hn
    show hm_has (hc_lkh ht sp one n ||| (if hc_abs (ht n - ht one) ≤ sp then nI 1 <<< (nI n &&& 31) else nI 0)) (nI i) = _
    rw [hc_has_or _ _ i (by omega), ih i hi (by omega)]
    by_cases hin : i = n
    · subst hin
      rw [decide_eq_false (show ¬ i < i by omega), decide_eq_true (show i < i + 1 by omega), Bool.false_and, Bool.false_or, Bool.true_and]
      by_cases hs : hc_abs (ht i - ht one) ≤ sp
      · rw [if_pos hs, decide_eq_true hs, hc_has_1 i i (by omega) (by omega), decide_eq_true rfl]
      · rw [if_neg hs, decide_eq_false hs, hc_has_0 ⟨i, by omega⟩]
    · have e1 : decide (i < n) = decide (i < n + 1) := decide_eq_decide.mpr (by omega)
      have e2 : hm_has (if hc_abs (ht n - ht one) ≤ sp then nI 1 <<< (nI n &&& 31) else nI 0) (nI i) = false := by
        split
        · rw [hc_has_1 n i (by omega) (by omega)]; exact decide_eq_false hin
        · exact hc_has_0 ⟨i, by omega⟩
      rw [e1, e2, Bool.or_false]
def hx_st (f : Nat → Nat) : Nat → Int32
  | 0 => nI 0
  | n + 1 => hx_st f n ||| nI 1 <<< (nI (f n) &&& 31)
theorem hx_st_c {f g : Nat → Nat} : ∀ n, (∀ i, i < n → f i = g i) → hx_st f n = hx_st g n := by
  intro n
  induction n with
  | zero => intro _; rfl
  | succ n ih =>
    intro h
    show hx_st f n ||| _ = hx_st g n ||| _
    rw [ih (fun i hi => h i (by omega)), h n (by omega)]
def hx_cd (ht : Nat → Int32) (sp pres : Int32) (f : Nat → Nat) (a i : Nat) : Bool := hm_has pres (nI i) && hm_all (fun j => decide (hc_abs (ht i - ht (f j)) ≤ sp)) a 0
def hx_okb (ht : Nat → Int32) (sp pres : Int32) (f : Nat → Nat) : Nat → Bool
  | 0 => true
  | n + 1 => hx_okb ht sp pres f n && hx_cd ht sp pres f n (f n)
def hx_q (ht : Nat → Int32) (sp pres : Int32) (mn : Nat) (f : Nat → Nat) : List Int32 := if hx_okb ht sp pres f mn = true then [hx_st f mn] else []
theorem hm_all_c {P P2 : Nat → Bool} : ∀ (j i : Nat), (∀ x, i ≤ x → x < i + j → P x = P2 x) → hm_all P j i = hm_all P2 j i := by
  intro j
  induction j with
  | zero => intro i _; rfl
  | succ j ih =>
    intro i h
    show (P i && hm_all P j (i + 1)) = (P2 i && hm_all P2 j (i + 1))
    rw [h i (by omega) (by omega), ih (i + 1) (fun x h1 h2 => h x (by omega) (by omega))]
theorem hm_all_s {P : Nat → Bool} : ∀ (j i : Nat), hm_all P (j + 1) i = (hm_all P j i && P (i + j)) := by
  intro j
  induction j with
  | zero =>
    intro i
    show (P i && true) = (true && P (i + 0))
    rw [Bool.and_true, Bool.true_and]
    rfl
  | succ j ih =>
    intro i
    show (P i && hm_all P (j + 1) (i + 1)) = (P i && hm_all P j (i + 1) && P (i + (j + 1)))
    rw [ih (i + 1), Bool.and_assoc, show i + 1 + j = i + (j + 1) by omega]
section DF
variable {ht : Nat → Int32} {sp pres : Int32}
theorem hx_cd_c {f g : Nat → Nat} {a i : Nat} (h : ∀ j, j < a → f j = g j) : hx_cd ht sp pres f a i = hx_cd ht sp pres g a i := by
  unfold hx_cd
  rw [hm_all_c a 0 (fun x _ h2 => by rw [h x (by omega)])]
theorem hx_okb_c {f g : Nat → Nat} : ∀ n, (∀ i, i < n → f i = g i) → hx_okb ht sp pres f n = hx_okb ht sp pres g n := by
  intro n
  induction n with
  | zero => intro _; rfl
  | succ n ih =>
    intro h
    show (hx_okb ht sp pres f n && hx_cd ht sp pres f n (f n)) = (hx_okb ht sp pres g n && hx_cd ht sp pres g n (g n))
    rw [ih (fun i hi => h i (by omega)), h n (by omega), hx_cd_c (fun j hj => h j (by omega))]
theorem hx_okb_mono {f : Nat → Nat} {n : Nat} : ∀ j, hx_okb ht sp pres f (n + j) = true → hx_okb ht sp pres f n = true := by
  intro j
  induction j with
  | zero => exact id
  | succ j ih =>
    intro h
    have h2 : (hx_okb ht sp pres f (n + j) && hx_cd ht sp pres f (n + j) (f (n + j))) = true := h
    rw [Bool.and_eq_true] at h2
    exact ih h2.1
theorem hx_en_pre {mn nb : Nat} : ∀ (r l : Nat) (f g : Nat → Nat), g ∈ hx_en mn nb l r f → l ≤ mn → ∀ j, j < mn - l → g j = f j := by
  intro r
  induction r with
  | zero =>
    intro l f g hg _ j hj
    cases l with
    | zero =>
      have e : hx_en mn nb 0 0 f = [f] := by unfold hx_en; rfl
      rw [e] at hg
      rw [List.mem_singleton.mp hg]
    | succ l =>
      have e : hx_en mn nb (l + 1) 0 f = [] := by unfold hx_en; rfl
      rw [e] at hg
      cases hg
  | succ r ih =>
    intro l f g hg hl j hj
    cases l with
    | zero =>
      have e : hx_en mn nb 0 (r + 1) f = [f] := by unfold hx_en; rfl
      rw [e] at hg
      rw [List.mem_singleton.mp hg]
    | succ l =>
      rw [hx_en] at hg
      rcases List.mem_append.mp hg with h1 | h1
      · rw [ih l _ g h1 (by omega) j (by omega)]
        exact if_neg (by omega)
      · exact ih (l + 1) f g h1 hl j hj
theorem hx_q_nil {mn nb l r i : Nat} {f : Nat → Nat} (hl : l + 1 ≤ mn) (hc : hx_cd ht sp pres f (mn - (l + 1)) i = false) : (hx_en mn nb l r (hx_fs f (mn - (l + 1)) i)).flatMap (hx_q ht sp pres mn) = [] := by
  rw [List.flatMap_eq_nil_iff]
  intro g hg
  have hp := hx_en_pre r l _ g hg (by omega)
  refine if_neg (fun z => ?_)
  have h1 := hx_okb_mono (n := mn - (l + 1) + 1) l (by rw [show mn - (l + 1) + 1 + l = mn by omega]; exact z)
  have h2 : (hx_okb ht sp pres g (mn - (l + 1)) && hx_cd ht sp pres g (mn - (l + 1)) (g (mn - (l + 1)))) = true := h1
  rw [Bool.and_eq_true] at h2
  have e1 : g (mn - (l + 1)) = i := (hp (mn - (l + 1)) (by omega)).trans (if_pos rfl)
  have e2 : hx_cd ht sp pres g (mn - (l + 1)) (g (mn - (l + 1))) = hx_cd ht sp pres f (mn - (l + 1)) i := by
    rw [e1]
    exact hx_cd_c (fun j hj => (hp j (by omega)).trans (if_neg (by omega)))
  rw [e2, hc] at h2
  cases h2.2
theorem hx_skip {lk : Nat → Int32} {nb : Nat} {rec : Int32 → Int32 → Option (List Int32)} {ch left : Int32} {r : Nat} (h : ∀ i, i < nb - r → hm_has left (nI i) = false) : ∀ j, r + j ≤ nb → hc_lq lk nb rec ch (r + j) left = hc_lq lk nb rec ch r left := by
  intro j
  induction j with
  | zero => intro _; rfl
  | succ j ih =>
    intro hj
    rw [show r + (j + 1) = (r + j) + 1 by omega, hc_lq_n (i := nb - (r + j + 1)) (by omega) (h _ (by omega))]
    exact ih (by omega)
theorem hx_first_1 {β : Type} {g : Int32 → Option β} {x : Int32} : hx_first g [x] = g x := by
  show (match g x with | some p => some p | none => none) = g x
  cases g x <;> rfl
theorem hx_dfs {mn nb : Nat} {fin : Int32 → Option (List Int32)} (hnb : nb ≤ 12) : ∀ (r l : Nat) (f : Nat → Nat) (left : Int32), l + 1 ≤ mn → r ≤ nb → hx_okb ht sp pres f (mn - (l + 1)) = true → (∀ i, i < nb → hm_has left (nI i) = (decide (nb - r ≤ i) && hx_cd ht sp pres f (mn - (l + 1)) i)) → hc_lq (fun one => hc_lkh ht sp one nb) nb (hc_fl (fun one => hc_lkh ht sp one nb) nb fin l) (hx_st f (mn - (l + 1))) r left = hx_first fin ((hx_en mn nb (l + 1) r f).flatMap (hx_q ht sp pres mn)) := by
  intro r
  induction r with
  | zero =>
    intro l f left _ _ _ _
    rw [show hx_en mn nb (l + 1) 0 f = [] by unfold hx_en; rfl]
    rfl
  | succ r ih =>
    intro l f left hl hr hok hleft
    have hi : nb - (r + 1) + (r + 1) = nb := by omega
    have hhi := hleft (nb - (r + 1)) (by omega)
    rw [decide_eq_true (Nat.le_refl _), Bool.true_and] at hhi
    rw [hx_en, List.flatMap_append, hx_first_app]
    cases hcd : hx_cd ht sp pres f (mn - (l + 1)) (nb - (r + 1)) with
    | false =>
      rw [hcd] at hhi
      rw [hc_lq_n hi hhi, hx_q_nil hl hcd]
      refine ih l f left hl (by omega) hok (fun i h1 => ?_)
      rw [hleft i h1]
      by_cases hie : i = nb - (r + 1)
      · rw [hie, hcd, Bool.and_false, Bool.and_false]
      · rw [show decide (nb - (r + 1) ≤ i) = decide (nb - r ≤ i) from decide_eq_decide.mpr (by omega)]
    | true =>
      rw [hcd] at hhi
      rw [hc_lq_y hi hhi]
      have hst : hx_st f (mn - (l + 1)) ||| nI 1 <<< (nI (nb - (r + 1)) &&& 31) = hx_st (hx_fs f (mn - (l + 1)) (nb - (r + 1))) (mn - (l + 1) + 1) := by
        show _ = hx_st (hx_fs f (mn - (l + 1)) (nb - (r + 1))) (mn - (l + 1)) ||| nI 1 <<< (nI (hx_fs f (mn - (l + 1)) (nb - (r + 1)) (mn - (l + 1))) &&& 31)
        rw [show hx_fs f (mn - (l + 1)) (nb - (r + 1)) (mn - (l + 1)) = nb - (r + 1) from if_pos rfl, hx_st_c (f := f) (g := hx_fs f (mn - (l + 1)) (nb - (r + 1))) (mn - (l + 1)) (fun i h1 => (if_neg (by omega)).symm)]
      have hok2 : hx_okb ht sp pres (hx_fs f (mn - (l + 1)) (nb - (r + 1))) (mn - (l + 1) + 1) = true := by
        show (hx_okb ht sp pres (hx_fs f (mn - (l + 1)) (nb - (r + 1))) (mn - (l + 1)) && hx_cd ht sp pres (hx_fs f (mn - (l + 1)) (nb - (r + 1))) (mn - (l + 1)) (hx_fs f (mn - (l + 1)) (nb - (r + 1)) (mn - (l + 1)))) = true
        rw [show hx_fs f (mn - (l + 1)) (nb - (r + 1)) (mn - (l + 1)) = nb - (r + 1) from if_pos rfl, hx_okb_c (f := hx_fs f (mn - (l + 1)) (nb - (r + 1))) (g := f) (mn - (l + 1)) (fun i h1 => if_neg (by omega)), hx_cd_c (f := hx_fs f (mn - (l + 1)) (nb - (r + 1))) (g := f) (fun i h1 => if_neg (by omega)), hok, hcd]
        rfl
      have hrm : ∀ i, i < nb → hm_has (left &&& (nI 1 <<< (nI (nb - (r + 1)) &&& 31) ^^^ (-1))) (nI i) = (decide (nb - r ≤ i) && hx_cd ht sp pres f (mn - (l + 1)) i) := fun i h1 => by
        rw [hc_has_and _ _ i (by omega), hc_has_not _ i (by omega), hc_has_1 (nb - (r + 1)) i (by omega) (by omega), hleft i h1]
        by_cases hie : i = nb - (r + 1)
        · rw [decide_eq_true hie, decide_eq_false (show ¬ nb - r ≤ i by omega), Bool.not_true, Bool.and_false, Bool.false_and]
        · rw [decide_eq_false hie, Bool.not_false, Bool.and_true, show decide (nb - (r + 1) ≤ i) = decide (nb - r ≤ i) from decide_eq_decide.mpr (by omega)]
      have e1 : hc_fl (fun one => hc_lkh ht sp one nb) nb fin l (hx_st f (mn - (l + 1)) ||| nI 1 <<< (nI (nb - (r + 1)) &&& 31)) (left &&& (nI 1 <<< (nI (nb - (r + 1)) &&& 31) ^^^ (-1)) &&& hc_lkh ht sp (nb - (r + 1)) nb) = hx_first fin ((hx_en mn nb l r (hx_fs f (mn - (l + 1)) (nb - (r + 1)))).flatMap (hx_q ht sp pres mn)) := by
        rw [hst]
        cases l with
        | zero =>
          rw [show hx_en mn nb 0 r (hx_fs f (mn - (0 + 1)) (nb - (r + 1))) = [hx_fs f (mn - (0 + 1)) (nb - (r + 1))] by unfold hx_en; rfl, List.flatMap_singleton]
          have em : mn - (0 + 1) + 1 = mn := by omega
          rw [em] at hok2 ⊢
          unfold hx_q
          rw [if_pos hok2, hx_first_1]
          rfl
        | succ l =>
          have em : mn - (l + 1 + 1) + 1 = mn - (l + 1) := by omega
          rw [em] at hok2 ⊢
          show hc_lq _ nb (hc_fl _ nb fin l) _ nb _ = _
          have hf2 : ∀ i, i < nb → hm_has (left &&& (nI 1 <<< (nI (nb - (r + 1)) &&& 31) ^^^ (-1)) &&& hc_lkh ht sp (nb - (r + 1)) nb) (nI i) = (decide (nb - r ≤ i) && hx_cd ht sp pres (hx_fs f (mn - (l + 1 + 1)) (nb - (r + 1))) (mn - (l + 1)) i) := fun i h1 => by
            rw [hc_has_and _ _ i (by omega), hrm i h1, hx_lkh nb i (by omega) hnb, decide_eq_true h1, Bool.true_and]
            have e3 : hx_cd ht sp pres (hx_fs f (mn - (l + 1 + 1)) (nb - (r + 1))) (mn - (l + 1)) i = (hx_cd ht sp pres f (mn - (l + 1 + 1)) i && decide (hc_abs (ht i - ht (nb - (r + 1))) ≤ sp)) := by
              rw [← em]
              unfold hx_cd
              rw [hm_all_s, Nat.zero_add, show hx_fs f (mn - (l + 1 + 1)) (nb - (r + 1)) (mn - (l + 1 + 1)) = nb - (r + 1) from if_pos rfl, hm_all_c (P := fun j => decide (hc_abs (ht i - ht (hx_fs f (mn - (l + 1 + 1)) (nb - (r + 1)) j)) ≤ sp)) (P2 := fun j => decide (hc_abs (ht i - ht (f j)) ≤ sp)) (mn - (l + 1 + 1)) 0 (fun x _ h2 => by show decide (hc_abs (ht i - ht (if x = mn - (l + 1 + 1) then nb - (r + 1) else f x)) ≤ sp) = _; rw [if_neg (by omega)]), Bool.and_assoc]
            rw [e3, Bool.and_assoc]
          have hskip := hx_skip (lk := fun one => hc_lkh ht sp one nb) (nb := nb) (rec := hc_fl (fun one => hc_lkh ht sp one nb) nb fin l) (ch := hx_st (hx_fs f (mn - (l + 1 + 1)) (nb - (r + 1))) (mn - (l + 1))) (left := left &&& (nI 1 <<< (nI (nb - (r + 1)) &&& 31) ^^^ (-1)) &&& hc_lkh ht sp (nb - (r + 1)) nb) (r := r) (fun i h1 => by
            rw [hf2 i (by omega), decide_eq_false (by omega), Bool.false_and]) (nb - r) (by omega)
          rw [show r + (nb - r) = nb by omega] at hskip
          rw [hskip]
          exact ih l _ _ (by omega) (by omega) hok2 hf2
      rw [e1, ih l f _ hl (by omega) hok hrm]
      generalize hx_first fin ((hx_en mn nb l r (hx_fs f (mn - (l + 1)) (nb - (r + 1)))).flatMap (hx_q ht sp pres mn)) = y
      cases y <;> rfl
/-- the class tries just the rows that are there, in their order -/
theorem hx_fl {mn nb : Nat} {fin : Int32 → Option (List Int32)} (hnb : nb ≤ 12) {fit : Int32} (hfit : ∀ i, i < nb → hm_has fit (nI i) = hm_has pres (nI i)) : hc_fl (fun one => hc_lkh ht sp one nb) nb fin mn (nI 0) fit = hx_first fin ((hx_en mn nb mn nb hx_id).flatMap (hx_q ht sp pres mn)) := by
  cases mn with
  | zero =>
    rw [show hx_en 0 nb 0 nb hx_id = [hx_id] by unfold hx_en; rfl, List.flatMap_singleton]
    show fin (nI 0) = hx_first fin (if (true = true) then [nI 0] else [])
    rw [if_pos rfl, hx_first_1]
  | succ l =>
    have e := hx_dfs (ht := ht) (sp := sp) (pres := pres) (mn := l + 1) (fin := fin) hnb nb l hx_id fit (Nat.le_refl _) (Nat.le_refl _) (by rw [Nat.sub_self]; rfl) (fun i h1 => by
      rw [hfit i h1, Nat.sub_self, Nat.sub_self, decide_eq_true (Nat.zero_le _), Bool.true_and]
      unfold hx_cd
      show _ = (_ && true)
      rw [Bool.and_true])
    rw [Nat.sub_self] at e
    exact e
end DF
