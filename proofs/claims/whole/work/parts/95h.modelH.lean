/-- the state with other scratch fields -/
def hm_x (m S : hm_M) : hm_M := fun j => if j < 25 then m j else S j
theorem hm_x_s (m S : hm_M) {k : Nat} (f : Nat → Int32) (hk : 25 ≤ k) : hm_uM (hm_x m S) k f = hm_x m (hm_uM S k f) := by
  funext j
  show (if j = k then f else if j < 25 then m j else S j) = (if j < 25 then m j else if j = k then f else S j)
  by_cases h1 : j = k
  · rw [if_pos h1, if_neg (by omega), if_pos h1]
  · rw [if_neg h1, if_neg h1]
theorem hm_x_m (m S : hm_M) {k : Nat} (f : Nat → Int32) (hk : k < 25) : hm_uM (hm_x m S) k f = hm_x (hm_uM m k f) S := by
  funext j
  show (if j = k then f else if j < 25 then m j else S j) = (if j < 25 then (if j = k then f else m j) else S j)
  by_cases h1 : j = k
  · rw [if_pos h1, if_pos (by omega), if_pos h1]
  · rw [if_neg h1, if_neg h1]
theorem hm_x_i (m : hm_M) : hm_x m m = m := by
  funext j
  unfold hm_x
  by_cases h1 : j < 25
  · rw [if_pos h1]
  · rw [if_neg h1]
section WX
variable {m S : hm_M} {h : Nat → Option va_E} {n s : Nat}
theorem wX_15 (f : Nat → Int32) : hm_set (hm_hM (hm_x m S) h n s) 73 (.inl (0, 64, .inl f)) = hm_hM (hm_x (hm_uM m 15 f) S) h n s := by rw [← hm_x_m m S f (by decide)]; exact wM_15 f
theorem wX_26 (f : Nat → Int32) : hm_set (hm_hM (hm_x m S) h n s) 79 (.inl (0, 8, .inl f)) = hm_hM (hm_x m (hm_uM S 26 f)) h n s := by rw [← hm_x_s m S f (by decide)]; exact wM_26 f
theorem wX_27 (f : Nat → Int32) : hm_set (hm_hM (hm_x m S) h n s) 80 (.inl (0, 8, .inl f)) = hm_hM (hm_x m (hm_uM S 27 f)) h n s := by rw [← hm_x_s m S f (by decide)]; exact wM_27 f
theorem wX_28 (f : Nat → Int32) : hm_set (hm_hM (hm_x m S) h n s) 81 (.inl (0, 7392, .inl f)) = hm_hM (hm_x m (hm_uM S 28 f)) h n s := by rw [← hm_x_s m S f (by decide)]; exact wM_28 f
theorem wX_29 (f : Nat → Int32) : hm_set (hm_hM (hm_x m S) h n s) 82 (.inl (0, 8, .inl f)) = hm_hM (hm_x m (hm_uM S 29 f)) h n s := by rw [← hm_x_s m S f (by decide)]; exact wM_29 f
theorem wX_30 (f : Nat → Int32) : hm_set (hm_hM (hm_x m S) h n s) 83 (.inl (0, 6, .inl f)) = hm_hM (hm_x m (hm_uM S 30 f)) h n s := by rw [← hm_x_s m S f (by decide)]; exact wM_30 f
theorem wX_25 (x : Int32) : hm_set (hm_hM (hm_x m S) h n s) 61 (.inr (8, (hm_mF (hm_x m S)).set 25 (.int x))) = hm_hM (hm_x m (hm_uM S 25 (fun _ => x))) h n s := by rw [← hm_x_s m S _ (by decide)]; exact wM_25 x
end WX
/-- the scratch rows of a listing: the row and the lists -/
def hm_sl (S : hm_M) (R W : Nat → Int32) : hm_M := hm_uM (hm_uM S 28 W) 30 R
theorem hm_sl_30 (S : hm_M) (R W f : Nat → Int32) : hm_uM (hm_sl S R W) 30 f = hm_sl S f W := hm_uM2 _ _ _ _
theorem hm_sl_28 (S : hm_M) (R W f : Nat → Int32) : hm_uM (hm_sl S R W) 28 f = hm_sl S R f := by
  funext j
  unfold hm_sl hm_uM
  by_cases h1 : j = 28
  · rw [if_pos h1, if_neg (by omega), if_pos h1]
  · rw [if_neg h1, if_neg h1, if_neg h1]
def hm_wr (f : Nat → Int32) (a : Nat) (L : List Int32) : Nat → Int32 := fun i => if a ≤ i then (L[i - a]?).getD (f i) else f i
theorem hm_wr_snoc (f : Nat → Int32) (a : Nat) (L : List Int32) (x : Int32) : upd (hm_wr f a L) (a + L.length) x = hm_wr f a (L ++ [x]) := by
  funext i
  unfold upd hm_wr
  by_cases h1 : i = a + L.length
  · rw [if_pos h1, if_pos (by omega), show i - a = L.length by omega, List.getElem?_append_right (by omega), Nat.sub_self]
    rfl
  · rw [if_neg h1]
    by_cases h2 : a ≤ i
    · rw [if_pos h2, if_pos h2]
      rcases Nat.lt_or_ge (i - a) L.length with h3 | h3
      · rw [List.getElem?_append_left h3]
      · rw [List.getElem?_eq_none (by omega), List.getElem?_eq_none (by rw [List.length_append]; show L.length + 1 ≤ _; omega)]
    · rw [if_neg h2, if_neg h2]
theorem hm_wr_nil (f : Nat → Int32) (a : Nat) : hm_wr f a [] = f := by
  funext i
  unfold hm_wr
  by_cases h2 : a ≤ i
  · rw [if_pos h2]; rfl
  · rw [if_neg h2]
def hm_dn : Nat → Int32
  | 0 => -1
  | j + 1 => nI j
theorem hm_dn_sub (j : Nat) : nI j - nI 1 = hm_dn j := by
  cases j with
  | zero => decide +kernel
  | succ j =>
    rw [← nI_add, hm_addsub]
    rfl
theorem hm_dn_dec (j : Nat) : nI j + Int32.ofInt (-1) = hm_dn j := by
  rw [← hm_dn_sub, show Int32.ofInt (-1) = -(nI 1) by decide +kernel, Int32.sub_eq_add_neg]
/-- least, greatest and set of a row -/
def hm_l1 (ht : Nat → Int32) (r : Nat → Nat) : Nat → Nat → Int32 → Int32 → Int32 → Int32 × Int32 × Int32
  | 0, _, lo, hi, st => (lo, hi, st)
  | k + 1, j, lo, hi, st => hm_l1 ht r k (j + 1) (if lo ≤ ht (r j) then lo else ht (r j)) (if ht (r j) ≤ hi then hi else ht (r j)) (st ||| nI 1 <<< (nI (r j) &&& 31))
def hm_nk (r : Nat → Nat) (mn nb : Nat) : Nat → Nat
  | 0 => 0
  | j + 1 => if r j = nb - mn + j then hm_nk r mn nb j else j + 1
def hm_nx (r : Nat → Nat) (j : Nat) : Nat → Nat := fun i => if i < j then r i else r j + 1 + (i - j)
def hm_lz (ht : Nat → Int32) (sp : Int32) (mn : Nat) (r : Nat → Nat) (L : List Int32) : List Int32 := if sp < (hm_l1 ht r mn 0 (nI 999) (nI 0) (nI 0)).2.1 - (hm_l1 ht r mn 0 (nI 999) (nI 0) (nI 0)).1 then L else L ++ [(hm_l1 ht r mn 0 (nI 999) (nI 0) (nI 0)).2.2]
def hm_ls (ht : Nat → Int32) (sp : Int32) (mn nb : Nat) : Nat → (Nat → Nat) → List Int32 → Option (List Int32)
  | 0, _, _ => none
  | k + 1, r, L => match hm_nk r mn nb mn with
    | 0 => some (hm_lz ht sp mn r L)
    | j + 1 => hm_ls ht sp mn nb k (hm_nx r j) (hm_lz ht sp mn r L)
theorem hm_lz_len (ht : Nat → Int32) (sp : Int32) (mn : Nat) (r : Nat → Nat) (L : List Int32) : L.length ≤ (hm_lz ht sp mn r L).length := by
  unfold hm_lz
  split
  · exact Nat.le_refl _
  · rw [List.length_append]; omega
theorem hm_ls_len {ht : Nat → Int32} {sp : Int32} {mn nb : Nat} : ∀ {k : Nat} {r : Nat → Nat} {L L2 : List Int32}, hm_ls ht sp mn nb k r L = some L2 → (hm_lz ht sp mn r L).length ≤ L2.length := by
  intro k
  induction k with
  | zero => intro r L L2 h; cases h
  | succ k ih =>
    intro r L L2 h
    unfold hm_ls at h
    split at h
    · cases h; exact Nat.le_refl _
    · exact Nat.le_trans (hm_lz_len ht sp mn _ _) (ih h)
set_option maxRecDepth 20000 in
theorem l_155a {d n s : Nat} {m S : hm_M} {h : Nat → Option va_E} {Q : Option Value → hm_H → Prop} {W : Nat → Int32} {c fr mn N : Nat} (hmn : mn ≤ 6) {v6 v7 v8 v9 v10 : Value} (hK : ∀ R : Nat → Int32, (∀ i, i < mn → R i = nI i) → hm_T d 155 44 [.ref 61, .int (nI c), .int (nI fr), .int (nI mn), .int (nI N), .int (nI mn), v6, v7, v8, v9, v10] [] (hm_hM (hm_x m (hm_sl S R W)) h n s) Q) : ∀ (k j : Nat) (R : Nat → Int32), j + k = mn → (∀ i, i < j → R i = nI i) → hm_T d 155 23 [.ref 61, .int (nI c), .int (nI fr), .int (nI mn), .int (nI N), .int (nI j), v6, v7, v8, v9, v10] [] (hm_hM (hm_x m (hm_sl S R W)) h n s) Q := by
  intro k
  induction k with
  | zero =>
    intro j R hj hR
    refine r_iload k_155_23 rfl ?_
    refine r_iload_n k_155_25 rfl ?_
    refine r_icmp_ge k_155_26 rfl (fun c_26 => ?_) (fun z => absurd (nI_le (show mn ≤ j by omega) (by omega)) z)
    rw [show j = mn by omega] at hR ⊢
    exact hK R hR
  | succ k ih =>
    intro j R hj hR
    refine r_iload k_155_23 rfl ?_
    refine r_iload_n k_155_25 rfl ?_
    refine r_icmp_ge k_155_26 rfl (fun z => absurd z (nI_ge (show j < mn by omega) (by omega))) (fun c_26 => ?_)
    refine r_aload_n k_155_29 rfl ?_
    refine r_get m_155 k_155_30 fl_8_78 rfl rfl ?_
    refine r_iload k_155_33 rfl ?_
    refine r_iload k_155_35 rfl ?_
    refine r_iastn (k := j) k_155_37 rfl rfl rfl (by omega) (by decide) ((wX_30 _).trans (by rw [hm_sl_30])) ?_
    refine r_iincn k_155_38 rfl (nI_inc j) rfl ?_
    refine r_goto k_155_41 rfl ?_
    refine ih (j + 1) _ (by omega) (fun i hi => ?_)
    show (if i = j then nI j else R i) = nI i
    by_cases h1 : i = j
    · rw [if_pos h1, h1]
    · rw [if_neg h1]
      exact hR i (by omega)
set_option maxRecDepth 20000 in
theorem l_155c {d n s : Nat} {m S : hm_M} {h : Nat → Option va_E} {Q : Option Value → hm_H → Prop} {R W : Nat → Int32} {c fr mn nb N : Nat} {x5 : Int32} {r : Nat → Nat} (hmn : mn ≤ 6) (hR : ∀ i, i < mn → R i = nI (r i)) (hr : ∀ i, i < mn → r i < 12) : ∀ (k j : Nat) (lo hi st : Int32) (v10 : Value), j + k = mn → (∀ v10 : Value, hm_T d 155 138 [.ref 61, .int (nI c), .int (nI fr), .int (nI mn), .int (nI N), .int x5, .int (hm_l1 (m 3) r k j lo hi st).1, .int (hm_l1 (m 3) r k j lo hi st).2.1, .int (hm_l1 (m 3) r k j lo hi st).2.2, .int (nI mn), v10] [] (hm_hM (hm_x m (hm_sl S R W)) h n s) Q) → hm_T d 155 66 [.ref 61, .int (nI c), .int (nI fr), .int (nI mn), .int (nI N), .int x5, .int lo, .int hi, .int st, .int (nI j), v10] [] (hm_hM (hm_x m (hm_sl S R W)) h n s) Q := by
  intro k
  induction k with
  | zero =>
    intro j lo hi st v10 hj hK
    refine r_iload k_155_66 rfl ?_
    refine r_iload_n k_155_68 rfl ?_
    refine r_icmp_ge k_155_69 rfl (fun c_69 => ?_) (fun z => absurd (nI_le (show mn ≤ j by omega) (by omega)) z)
    rw [show j = mn by omega] at hK ⊢
    exact hK v10
  | succ k ih =>
    intro j lo hi st v10 hj hK
    refine r_iload k_155_66 rfl ?_
    refine r_iload_n k_155_68 rfl ?_
    refine r_icmp_ge k_155_69 rfl (fun z => absurd z (nI_ge (show j < mn by omega) (by omega))) (fun c_69 => ?_)
    refine r_aload_n k_155_72 rfl ?_
    refine r_get m_155 k_155_73 fl_8_16 rfl rfl ?_
    refine r_aload_n k_155_76 rfl ?_
    refine r_get m_155 k_155_77 fl_8_78 rfl rfl ?_
    refine r_iload k_155_80 rfl ?_
    refine r_ialdn (k := j) k_155_82 rfl (Or.inl rfl) rfl (by omega) (by decide) ?_
    refine r_ialdn (k := r j) k_155_83 rfl (Or.inl rfl) (hR j (by omega)) (hr j (by omega)) (by decide) ?_
    refine r_istore k_155_84 rfl ?_
    refine r_iload k_155_86 rfl ?_
    refine r_iload k_155_88 rfl ?_
    refine r_icmp_ge k_155_90 rfl (fun c_90 => ?_) (fun c_90 => ?_)
    · refine r_iload k_155_98 rfl ?_
      refine r_istore k_155_100 rfl ?_
      refine r_iload k_155_102 rfl ?_
      refine r_iload k_155_104 rfl ?_
      refine r_icmp_le k_155_106 rfl (fun c_106 => ?_) (fun c_106 => ?_)
      · refine r_iload k_155_114 rfl ?_
        refine r_istore k_155_116 rfl ?_
        refine r_iload k_155_118 rfl ?_
        refine r_iconst k_155_120 ci_1 ?_
        refine r_aload_n k_155_121 rfl ?_
        refine r_get m_155 k_155_122 fl_8_78 rfl rfl ?_
        refine r_iload k_155_125 rfl ?_
        refine r_ialdn (k := j) k_155_127 rfl (Or.inl rfl) rfl (by omega) (by decide) ?_
        rw [show hm_x m (hm_sl S R W) 30 j = nI (r j) from hR j (by omega)]
        refine r_ishl k_155_128 ?_
        refine r_ior k_155_129 ?_
        refine r_istore k_155_130 rfl ?_
        refine r_iincn k_155_132 rfl (nI_inc j) rfl ?_
        refine r_goto k_155_135 rfl ?_
        refine ih (j + 1) _ _ _ _ (by omega) (fun v10 => ?_)
        have e := hK v10
        rw [show hm_l1 (m 3) r (k + 1) j lo hi st = hm_l1 (m 3) r k (j + 1) (if lo ≤ m 3 (r j) then lo else m 3 (r j)) (if m 3 (r j) ≤ hi then hi else m 3 (r j)) (st ||| nI 1 <<< (nI (r j) &&& 31)) from rfl, if_pos (show lo ≤ m 3 (r j) from c_90), if_pos (show m 3 (r j) ≤ hi from c_106)] at e
        exact e
      · refine r_iload k_155_109 rfl ?_
        refine r_goto k_155_111 rfl ?_
        refine r_istore k_155_116 rfl ?_
        refine r_iload k_155_118 rfl ?_
        refine r_iconst k_155_120 ci_1 ?_
        refine r_aload_n k_155_121 rfl ?_
        refine r_get m_155 k_155_122 fl_8_78 rfl rfl ?_
        refine r_iload k_155_125 rfl ?_
        refine r_ialdn (k := j) k_155_127 rfl (Or.inl rfl) rfl (by omega) (by decide) ?_
        rw [show hm_x m (hm_sl S R W) 30 j = nI (r j) from hR j (by omega)]
        refine r_ishl k_155_128 ?_
        refine r_ior k_155_129 ?_
        refine r_istore k_155_130 rfl ?_
        refine r_iincn k_155_132 rfl (nI_inc j) rfl ?_
        refine r_goto k_155_135 rfl ?_
        refine ih (j + 1) _ _ _ _ (by omega) (fun v10 => ?_)
        have e := hK v10
        rw [show hm_l1 (m 3) r (k + 1) j lo hi st = hm_l1 (m 3) r k (j + 1) (if lo ≤ m 3 (r j) then lo else m 3 (r j)) (if m 3 (r j) ≤ hi then hi else m 3 (r j)) (st ||| nI 1 <<< (nI (r j) &&& 31)) from rfl, if_pos (show lo ≤ m 3 (r j) from c_90), if_neg (show ¬ m 3 (r j) ≤ hi from c_106)] at e
        exact e
    · refine r_iload k_155_93 rfl ?_
      refine r_goto k_155_95 rfl ?_
      refine r_istore k_155_100 rfl ?_
      refine r_iload k_155_102 rfl ?_
      refine r_iload k_155_104 rfl ?_
      refine r_icmp_le k_155_106 rfl (fun c_106 => ?_) (fun c_106 => ?_)
      · refine r_iload k_155_114 rfl ?_
        refine r_istore k_155_116 rfl ?_
        refine r_iload k_155_118 rfl ?_
        refine r_iconst k_155_120 ci_1 ?_
        refine r_aload_n k_155_121 rfl ?_
        refine r_get m_155 k_155_122 fl_8_78 rfl rfl ?_
        refine r_iload k_155_125 rfl ?_
        refine r_ialdn (k := j) k_155_127 rfl (Or.inl rfl) rfl (by omega) (by decide) ?_
        rw [show hm_x m (hm_sl S R W) 30 j = nI (r j) from hR j (by omega)]
        refine r_ishl k_155_128 ?_
        refine r_ior k_155_129 ?_
        refine r_istore k_155_130 rfl ?_
        refine r_iincn k_155_132 rfl (nI_inc j) rfl ?_
        refine r_goto k_155_135 rfl ?_
        refine ih (j + 1) _ _ _ _ (by omega) (fun v10 => ?_)
        have e := hK v10
        rw [show hm_l1 (m 3) r (k + 1) j lo hi st = hm_l1 (m 3) r k (j + 1) (if lo ≤ m 3 (r j) then lo else m 3 (r j)) (if m 3 (r j) ≤ hi then hi else m 3 (r j)) (st ||| nI 1 <<< (nI (r j) &&& 31)) from rfl, if_neg (show ¬ lo ≤ m 3 (r j) from c_90), if_pos (show m 3 (r j) ≤ hi from c_106)] at e
        exact e
      · refine r_iload k_155_109 rfl ?_
        refine r_goto k_155_111 rfl ?_
        refine r_istore k_155_116 rfl ?_
        refine r_iload k_155_118 rfl ?_
        refine r_iconst k_155_120 ci_1 ?_
        refine r_aload_n k_155_121 rfl ?_
        refine r_get m_155 k_155_122 fl_8_78 rfl rfl ?_
        refine r_iload k_155_125 rfl ?_
        refine r_ialdn (k := j) k_155_127 rfl (Or.inl rfl) rfl (by omega) (by decide) ?_
        rw [show hm_x m (hm_sl S R W) 30 j = nI (r j) from hR j (by omega)]
        refine r_ishl k_155_128 ?_
        refine r_ior k_155_129 ?_
        refine r_istore k_155_130 rfl ?_
        refine r_iincn k_155_132 rfl (nI_inc j) rfl ?_
        refine r_goto k_155_135 rfl ?_
        refine ih (j + 1) _ _ _ _ (by omega) (fun v10 => ?_)
        have e := hK v10
        rw [show hm_l1 (m 3) r (k + 1) j lo hi st = hm_l1 (m 3) r k (j + 1) (if lo ≤ m 3 (r j) then lo else m 3 (r j)) (if m 3 (r j) ≤ hi then hi else m 3 (r j)) (st ||| nI 1 <<< (nI (r j) &&& 31)) from rfl, if_neg (show ¬ lo ≤ m 3 (r j) from c_90), if_neg (show ¬ m 3 (r j) ≤ hi from c_106)] at e
        exact e
set_option maxRecDepth 20000 in
theorem l_155d {d n s : Nat} {m S : hm_M} {h : Nat → Option va_E} {Q : Option Value → hm_H → Prop} {R W : Nat → Int32} {c fr mn nb N : Nat} {v5 v6 v7 v10 : Value} {x8 : Int32} {r : Nat → Nat} (hmn : mn ≤ 6) (hnb : nb ≤ 12) (hmb : mn ≤ nb) (hb : m 2 0 = nI nb) (hR : ∀ i, i < mn → R i = nI (r i)) (hr : ∀ i, i < mn → r i < 12) (hK : hm_T d 155 201 [.ref 61, .int (nI c), .int (nI fr), .int (nI mn), .int (nI N), v5, v6, v7, .int x8, .int (hm_dn (hm_nk r mn nb mn)), v10] [] (hm_hM (hm_x m (hm_sl S R W)) h n s) Q) : ∀ (j : Nat), j ≤ mn → hm_nk r mn nb mn = hm_nk r mn nb j → hm_T d 155 171 [.ref 61, .int (nI c), .int (nI fr), .int (nI mn), .int (nI N), v5, v6, v7, .int x8, .int (hm_dn j), v10] [] (hm_hM (hm_x m (hm_sl S R W)) h n s) Q := by
  intro j
  induction j with
  | zero =>
    intro hj he
    rw [he] at hK
    refine r_iload k_155_171 rfl ?_
    refine r_if_lt k_155_173 rfl (fun c_173 => ?_) (fun z => absurd (show (-1 : Int32) < 0 by decide +kernel) z)
    exact hK
  | succ j ih =>
    intro hj he
    have e2 : nI nb - nI mn + nI j = nI (nb - mn + j) := by
      rw [show nI nb = nI (nb - mn + mn) by rw [show nb - mn + mn = nb by omega], ← nI_add (nb - mn) mn, Int32.add_sub_cancel, nI_add]
    show hm_T d 155 171 [.ref 61, .int (nI c), .int (nI fr), .int (nI mn), .int (nI N), v5, v6, v7, .int x8, .int (nI j), v10] [] (hm_hM (hm_x m (hm_sl S R W)) h n s) Q
    refine r_iload k_155_171 rfl ?_
    refine r_if_lt k_155_173 rfl (fun z => absurd z (nI_pos (n := j) (by omega))) (fun c_173 => ?_)
    refine r_aload_n k_155_176 rfl ?_
    refine r_get m_155 k_155_177 fl_8_78 rfl rfl ?_
    refine r_iload k_155_180 rfl ?_
    refine r_ialdn (k := j) k_155_182 rfl (Or.inl rfl) rfl (by omega) (by decide) ?_
    refine r_aload_n k_155_183 rfl ?_
    refine r_get m_155 k_155_184 fl_8_124 rfl rfl ?_
    rw [show hm_x m (hm_sl S R W) 2 0 = nI nb from hb]
    refine r_iload_n k_155_187 rfl ?_
    refine r_isub k_155_188 ?_
    refine r_iload k_155_189 rfl ?_
    refine r_iadd k_155_191 ?_
    rw [e2, show hm_x m (hm_sl S R W) 30 j = nI (r j) from hR j (by omega)]
    refine r_icmp_ne k_155_192 rfl (fun c_192 => ?_) (fun c_192 => ?_)
    · rw [he, show hm_nk r mn nb (j + 1) = j + 1 from if_neg (fun z => c_192 (by rw [z]))] at hK
      exact hK
    · have c_192 := Decidable.of_not_not c_192
      refine r_iincn k_155_195 rfl (hm_dn_dec j) rfl ?_
      refine r_goto k_155_198 rfl ?_
      exact ih (by omega) (he.trans (if_pos (hm_nIinj c_192 (by have := hr j (by omega); omega))))
set_option maxRecDepth 20000 in
theorem l_155e {d n s : Nat} {m S : hm_M} {h : Nat → Option va_E} {Q : Option Value → hm_H → Prop} {W : Nat → Int32} {c fr mn N : Nat} {v5 v6 v7 v8 : Value} {x9 : Int32} {r : Nat → Nat} {q : Nat} (hmn : mn ≤ 6) (hrs : ∀ i, q < i → r i = r (i - 1) + 1) (hK : ∀ R : Nat → Int32, (∀ i, i < mn → R i = nI (r i)) → hm_T d 155 47 [.ref 61, .int (nI c), .int (nI fr), .int (nI mn), .int (nI N), v5, v6, v7, v8, .int x9, .int (nI mn)] [] (hm_hM (hm_x m (hm_sl S R W)) h n s) Q) : ∀ (k j : Nat) (R : Nat → Int32), j + k = mn → q < j → (∀ i, i < j → R i = nI (r i)) → hm_T d 155 235 [.ref 61, .int (nI c), .int (nI fr), .int (nI mn), .int (nI N), v5, v6, v7, v8, .int x9, .int (nI j)] [] (hm_hM (hm_x m (hm_sl S R W)) h n s) Q := by
  intro k
  induction k with
  | zero =>
    intro j R hj hq hR
    refine r_iload k_155_235 rfl ?_
    refine r_iload_n k_155_237 rfl ?_
    refine r_icmp_ge k_155_238 rfl (fun c_238 => ?_) (fun z => absurd (nI_le (show mn ≤ j by omega) (by omega)) z)
    refine r_goto k_155_265 rfl ?_
    rw [show j = mn by omega] at hR ⊢
    exact hK R hR
  | succ k ih =>
    intro j R hj hq hR
    refine r_iload k_155_235 rfl ?_
    refine r_iload_n k_155_237 rfl ?_
    refine r_icmp_ge k_155_238 rfl (fun z => absurd z (nI_ge (show j < mn by omega) (by omega))) (fun c_238 => ?_)
    refine r_aload_n k_155_241 rfl ?_
    refine r_get m_155 k_155_242 fl_8_78 rfl rfl ?_
    refine r_iload k_155_245 rfl ?_
    refine r_aload_n k_155_247 rfl ?_
    refine r_get m_155 k_155_248 fl_8_78 rfl rfl ?_
    refine r_iload k_155_251 rfl ?_
    refine r_iconst k_155_253 ci_1 ?_
    refine r_isub k_155_254 ?_
    refine r_ialdn (k := j - 1) k_155_255 rfl (Or.inl rfl) (by rw [show nI j = nI (j - 1 + 1) by rw [show j - 1 + 1 = j by omega], ← nI_add, hm_addsub]) (by omega) (by decide) ?_
    refine r_iconst k_155_256 ci_1 ?_
    refine r_iadd k_155_257 ?_
    refine r_iastn (k := j) k_155_258 rfl rfl rfl (by omega) (by decide) ((wX_30 _).trans (by rw [hm_sl_30])) ?_
    refine r_iincn k_155_259 rfl (nI_inc j) rfl ?_
    refine r_goto k_155_262 rfl ?_
    refine ih (j + 1) _ (by omega) (by omega) (fun i hi => ?_)
    show (if i = j then hm_x m (hm_sl S R W) 30 (j - 1) + nI 1 else R i) = nI (r i)
    by_cases h1 : i = j
    · rw [if_pos h1, show hm_x m (hm_sl S R W) 30 (j - 1) = nI (r (j - 1)) from hR (j - 1) (by omega), h1, hrs j hq, nI_add]
    · rw [if_neg h1]
      exact hR i (by omega)
theorem hm_nk_lt {r : Nat → Nat} {mn nb : Nat} : ∀ {j q : Nat}, hm_nk r mn nb j = q + 1 → q < j ∧ ¬ r q = nb - mn + q := by
  intro j
  induction j with
  | zero => intro q h; cases h
  | succ j ih =>
    intro q h
    unfold hm_nk at h
    by_cases h1 : r j = nb - mn + j
    · rw [if_pos h1] at h
      obtain ⟨h2, h3⟩ := ih h
      exact ⟨by omega, h3⟩
    · rw [if_neg h1] at h
      cases h
      exact ⟨Nat.lt_succ_self _, h1⟩
theorem hm_nx_ok {r : Nat → Nat} {mn nb j : Nat} (hr : ∀ i, i < mn → r i ≤ nb - mn + i) (hj : j < mn) (hne : ¬ r j = nb - mn + j) : ∀ i, i < mn → hm_nx r j i ≤ nb - mn + i := by
  intro i hi
  unfold hm_nx
  by_cases h1 : i < j
  · rw [if_pos h1]
    exact hr i hi
  · rw [if_neg h1]
    have := hr j hj
    omega
set_option maxRecDepth 20000 in
theorem l_155b {d n s : Nat} {m S : hm_M} {h : Nat → Option va_E} {Q : Option Value → hm_H → Prop} {f0 : Nat → Int32} {c fr mn nb : Nat} (hc : c < 16) (hmn : mn ≤ 6) (hnb : nb ≤ 12) (hmb : mn ≤ nb) (hb : m 2 0 = nI nb) {L2 : List Int32} (hfr : fr + L2.length ≤ 7392) (hQ : ∀ R, Q (some (.int (nI L2.length))) (hm_hM (hm_x m (hm_sl S R (hm_wr f0 fr L2))) h n s)) : ∀ (k : Nat) (r : Nat → Nat) (L : List Int32) (R : Nat → Int32) (v6 v7 v8 v9 v10 : Value), v6.category = 1 → v7.category = 1 → v8.category = 1 → v9.category = 1 → (∀ i, i < mn → R i = nI (r i)) → (∀ i, i < mn → r i ≤ nb - mn + i) → hm_ls (m 3) (m 13 c) mn nb k r L = some L2 → hm_T d 155 47 [.ref 61, .int (nI c), .int (nI fr), .int (nI mn), .int (nI L.length), .int (nI 1), v6, v7, v8, v9, v10] [] (hm_hM (hm_x m (hm_sl S R (hm_wr f0 fr L))) h n s) Q := by
  intro k
  induction k with
  | zero =>
    intro r L R v6 v7 v8 v9 v10 h6 h7 h8 h9 hR hr he
    cases he
  | succ k ih =>
    intro r L R v6 v7 v8 v9 v10 h6 h7 h8 h9 hR hr he
    have hr12 : ∀ i, i < mn → r i < 12 := fun i hi => by have := hr i hi; omega
    have hlen := hm_ls_len he
    refine r_iload k_155_47 rfl ?_
    refine r_if_eq k_155_49 rfl (fun z => absurd z (show ¬ (1 : Int32) = 0 by decide)) (fun c_49 => ?_)
    refine r_sipush k_155_52 cs_999 ?_
    refine r_istore k_155_55 rfl ?_
    refine r_iconst k_155_57 ci_0 ?_
    refine r_istore k_155_58 rfl ?_
    refine r_iconst k_155_60 ci_0 ?_
    refine r_istore k_155_61 rfl ?_
    refine r_iconst k_155_63 ci_0 ?_
    refine r_istore k_155_64 rfl ?_
    refine l_155c (r := r) (nb := nb) hmn hR hr12 mn 0 _ _ _ _ (by omega) (fun v10 => ?_)
    suffices hS : hm_T d 155 166 [.ref 61, .int (nI c), .int (nI fr), .int (nI mn), .int (nI (hm_lz (m 3) (m 13 c) mn r L).length), .int (nI 1), .int (hm_l1 (m 3) r mn 0 (nI 999) (nI 0) (nI 0)).1, .int (hm_l1 (m 3) r mn 0 (nI 999) (nI 0) (nI 0)).2.1, .int (hm_l1 (m 3) r mn 0 (nI 999) (nI 0) (nI 0)).2.2, .int (nI mn), v10] [] (hm_hM (hm_x m (hm_sl S R (hm_wr f0 fr (hm_lz (m 3) (m 13 c) mn r L)))) h n s) Q by
      refine r_iload k_155_138 rfl ?_
      refine r_iload k_155_140 rfl ?_
      refine r_isub k_155_142 ?_
      refine r_aload_n k_155_143 rfl ?_
      refine r_get m_155 k_155_144 fl_8_41 rfl rfl ?_
      refine r_iload_n k_155_147 rfl ?_
      refine r_ialdn (k := c) k_155_148 rfl (Or.inl rfl) rfl (by omega) (by decide) ?_
      refine r_icmp_gt k_155_149 rfl (fun c_149 => ?_) (fun c_149 => ?_)
      · rw [show hm_lz (m 3) (m 13 c) mn r L = L from if_pos c_149] at hS
        exact hS
      · have hz : hm_lz (m 3) (m 13 c) mn r L = L ++ [(hm_l1 (m 3) r mn 0 (nI 999) (nI 0) (nI 0)).2.2] := if_neg c_149
        have h2 : fr + L.length < 7392 := by rw [hz, List.length_append] at hlen; have h3 : L.length + 1 ≤ L2.length := hlen; omega
        refine r_aload_n k_155_152 rfl ?_
        refine r_get m_155 k_155_153 fl_8_72 rfl rfl ?_
        refine r_iload_n k_155_156 rfl ?_
        refine r_iload k_155_157 rfl ?_
        refine r_iadd k_155_159 ?_
        refine r_iload k_155_160 rfl ?_
        refine r_iastn (k := fr + L.length) k_155_162 rfl rfl (by rw [nI_add]) h2 (by decide) ((wX_28 _).trans (by rw [hm_sl_28])) ?_
        refine r_iincn k_155_163 rfl (nI_inc L.length) rfl ?_
        rw [hz, List.length_append, ← hm_wr_snoc] at hS
        exact hS
    refine r_iload_n k_155_166 rfl ?_
    refine r_iconst k_155_167 ci_1 ?_
    refine r_isub k_155_168 ?_
    rw [hm_dn_sub]
    refine r_istore k_155_169 rfl ?_
    refine l_155d (r := r) hmn hnb hmb hb hR hr12 ?_ mn (Nat.le_refl _) rfl
    unfold hm_ls at he
    split at he
    · rename_i hk0
      cases he
      rw [hk0]
      refine r_iload k_155_201 rfl ?_
      refine r_if_lt k_155_203 rfl (fun c_203 => ?_) (fun z => absurd (show (-1 : Int32) < 0 by decide +kernel) z)
      refine r_iconst k_155_210 ci_0 ?_
      refine r_istore k_155_211 rfl ?_
      refine r_iload k_155_213 rfl ?_
      refine r_if_eq k_155_215 rfl (fun c_215 => ?_) (fun z => absurd rfl z)
      refine r_goto k_155_265 rfl ?_
      refine r_iload k_155_47 rfl ?_
      refine r_if_eq k_155_49 rfl (fun c_49 => ?_) (fun z => absurd rfl z)
      refine r_iload k_155_268 rfl ?_
      exact hm_T.ret m_155 k_155_270 rfl (hQ R)
    · rename_i j hk0
      rw [hk0]
      obtain ⟨hj1, hj2⟩ := hm_nk_lt hk0
      refine r_iload k_155_201 rfl ?_
      refine r_if_lt k_155_203 rfl (fun z => absurd z (nI_pos (n := j) (by omega))) (fun c_203 => ?_)
      refine r_iconst k_155_206 ci_1 ?_
      refine r_goto k_155_207 rfl ?_
      refine r_istore k_155_211 rfl ?_
      refine r_iload k_155_213 rfl ?_
      refine r_if_eq k_155_215 rfl (fun z => absurd z (show ¬ (1 : Int32) = 0 by decide)) (fun c_215 => ?_)
      refine r_aload_n k_155_218 rfl ?_
      refine r_get m_155 k_155_219 fl_8_78 rfl rfl ?_
      refine r_iload k_155_222 rfl ?_
      refine r_dup2 k_155_224 rfl rfl ?_
      refine r_ialdn (k := j) k_155_225 rfl (Or.inl rfl) rfl (by omega) (by decide) ?_
      refine r_iconst k_155_226 ci_1 ?_
      refine r_iadd k_155_227 ?_
      refine r_iastn (k := j) k_155_228 rfl rfl rfl (by omega) (by decide) ((wX_30 _).trans (by rw [hm_sl_30])) ?_
      refine r_iload k_155_229 rfl ?_
      refine r_iconst k_155_231 ci_1 ?_
      refine r_iadd k_155_232 ?_
      rw [show hm_dn (j + 1) + nI 1 = nI (j + 1) from nI_add j 1]
      refine r_istore k_155_233 rfl ?_
      refine l_155e (r := hm_nx r j) (q := j) hmn (fun i hi => ?_) (fun R2 hR2 => ?_) (mn - (j + 1)) (j + 1) _ (by omega) (by omega) (fun i hi => ?_)
      · unfold hm_nx
        rw [if_neg (by omega), if_neg (by omega)]
        omega
      · exact ih (hm_nx r j) _ R2 _ _ _ _ _ rfl rfl rfl rfl hR2 (hm_nx_ok hr hj1 hj2) he
      · show (if i = j then hm_x m (hm_sl S R _) 30 j + nI 1 else R i) = nI (hm_nx r j i)
        unfold hm_nx
        by_cases h1 : i = j
        · rw [if_pos h1, if_neg (by omega), show hm_x m (hm_sl S R (hm_wr f0 fr (hm_lz (m 3) (m 13 c) mn r L))) 30 j = nI (r j) from hR j hj1, nI_add, h1, Nat.sub_self, Nat.add_zero]
        · rw [if_neg h1, if_pos (by omega)]
          exact hR i (by omega)
