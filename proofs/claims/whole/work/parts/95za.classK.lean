/-! WHO IS CARRIED, and what the search finds -/
def hc_car (k : hm_M) (hour : Int32) (c : Nat) : Bool := decide (k (100 + 2 * c) 1 = hour ∨ k (100 + 2 * c) 3 = hour)
def hc_wl (k : hm_M) (hour : Int32) : Nat → List Nat
  | 0 => []
  | c + 1 => if hc_car k hour c = true then hc_wl k hour c ++ [c] else hc_wl k hour c
def hc_at (f : Nat → Int32) (L : List Nat) (i : Nat) : Int32 := f (L[i]?.getD 0)
def hc_V (k : hm_M) (nb : Nat) (L : List Nat) : Option (List Int32) := if hm_sg (hc_at (k 12) L) L.length ≤ nI nb then hc_ss (k 3) nb (hc_at (k 12) L) (hc_at (k 13) L) L.length 0 (nI 0) else none
theorem hm_sg_c {f g : Nat → Int32} : ∀ n, (∀ i, i < n → f i = g i) → hm_sg f n = hm_sg g n := by
  intro n
  induction n with
  | zero => intro _; rfl
  | succ n ih =>
    intro h
    show hm_sg f n + f n = hm_sg g n + g n
    rw [ih (fun i hi => h i (by omega)), h n (by omega)]
theorem hc_ss_c {ht : Nat → Int32} {nb : Nat} {N P N2 P2 : Nat → Int32} : ∀ (r kk : Nat) (aw : Int32), (∀ i, kk ≤ i → i < kk + r → N i = N2 i ∧ P i = P2 i) → hc_ss ht nb N P r kk aw = hc_ss ht nb N2 P2 r kk aw := by
  intro r
  induction r with
  | zero => intro kk aw h; rfl
  | succ r ih =>
    intro kk aw h
    have e := h kk (by omega) (by omega)
    have e2 : (fun x => (hc_ss ht nb N P r (kk + 1) (aw ||| x)).map (fun p => x :: p)) = (fun x => (hc_ss ht nb N2 P2 r (kk + 1) (aw ||| x)).map (fun p => x :: p)) := by
      funext x
      rw [ih (kk + 1) _ (fun i h1 h2 => h i (by omega) (by omega))]
    show hc_fl _ nb _ (N kk).toNatClampNeg _ _ = hc_fl _ nb _ (N2 kk).toNatClampNeg _ _
    rw [e.1, e.2, e2]
theorem hc_lq_some {lk : Nat → Int32} {nb : Nat} {rec : Int32 → Int32 → Option (List Int32)} {ch : Int32} {p : List Int32} : ∀ (r : Nat) (left : Int32), hc_lq lk nb rec ch r left = some p → ∃ a b, rec a b = some p := by
  intro r
  induction r with
  | zero => intro left h; cases h
  | succ r ih =>
    intro left h
    unfold hc_lq at h
    split at h
    · split at h
      next p2 hp => cases h; exact ⟨_, _, hp⟩
      next => exact ih _ h
    · exact ih _ h
theorem hc_fl_some {lk : Nat → Int32} {nb : Nat} {fin : Int32 → Option (List Int32)} {p : List Int32} : ∀ (l : Nat) (ch fit : Int32), hc_fl lk nb fin l ch fit = some p → ∃ x, fin x = some p := by
  intro l
  induction l with
  | zero => intro ch fit h; exact ⟨ch, h⟩
  | succ l ih =>
    intro ch fit h
    obtain ⟨a, b, e⟩ := hc_lq_some nb fit h
    exact ih a b e
theorem hc_ss_len {ht : Nat → Int32} {nb : Nat} {N P : Nat → Int32} : ∀ (r kk : Nat) (aw : Int32) (ps : List Int32), hc_ss ht nb N P r kk aw = some ps → ps.length = r := by
  intro r
  induction r with
  | zero => intro kk aw ps h; cases h; rfl
  | succ r ih =>
    intro kk aw ps h
    obtain ⟨x, e⟩ := hc_fl_some _ _ _ h
    cases h2 : hc_ss ht nb N P r (kk + 1) (aw ||| x) with
    | none => rw [h2] at e; cases e
    | some q => rw [h2] at e; cases e; rw [List.length_cons, ih _ _ _ h2]
/-- the scratch of the search apart -/
def hc_sc (k k2 : hm_M) : Prop := ∀ j, j < 36 ∨ 39 < j → k2 j = k j
def hc_kw (k : hm_M) (N P : Nat → Int32) (L : Nat) : hm_M := hm_uM (hm_uM (hm_uM k 37 N) 38 P) 36 (fun _ => nI L)
theorem hc_kw_sc (k : hm_M) (N P S : Nat → Int32) (L : Nat) : hc_sc k (hm_uM (hc_kw k N P L) 39 S) := fun j hj => (if_neg (by omega)).trans ((if_neg (by omega)).trans ((if_neg (by omega)).trans (if_neg (by omega))))
theorem hc_kw_w {k : hm_M} {N P N2 P2 : Nat → Int32} {L M : Nat} : hm_uM (hm_uM (hm_uM (hc_kw k N P L) 37 N2) 38 P2) 36 (fun _ => nI M) = hc_kw k N2 P2 M := by
  funext j
  show (if j = 36 then _ else if j = 38 then P2 else if j = 37 then N2 else if j = 36 then _ else if j = 38 then P else if j = 37 then N else k j) = (if j = 36 then _ else if j = 38 then P2 else if j = 37 then N2 else k j)
  by_cases h1 : j = 36
  · subst h1; rfl
  by_cases h2 : j = 38
  · subst h2; rfl
  by_cases h3 : j = 37
  · subst h3; rfl
  simp only [h1, h2, h3, ↓reduceIte]
theorem hc_kw_0 {k : hm_M} : hm_uM k 36 (fun _ => nI 0) = hc_kw k (k 37) (k 38) 0 := by
  unfold hc_kw
  rw [hm_uMs, show hm_uM k 38 (k 38) = k from hm_uMs k 38]
theorem hm_D.sc {k : hm_M} {ad : hm_AD} {g : Nat → Nat × Nat} {nc np n : Nat} {h : Nat → Option va_E} (X : hm_D k ad g nc np n h) {k2 : hm_M} (hs : hc_sc k k2) : hm_D k2 ad g nc np n h := X.st (fun j hj => hs j (by omega)) ⟨hs 9 (by decide), hs 10 (by decide), hs 11 (by decide), hs 12 (by decide), hs 13 (by decide), hs 34 (by decide), hs 16 (by decide), hs 18 (by decide), hs 19 (by decide), hs 20 (by decide), hs 21 (by decide), hs 33 (by decide), hs 22 (by decide)⟩
theorem hc_kw_s (k : hm_M) (N P : Nat → Int32) (L : Nat) : hc_sc k (hc_kw k N P L) := fun j hj => (if_neg (by omega)).trans ((if_neg (by omega)).trans (if_neg (by omega)))
def hc_lis (k : hm_M) (N P : Nat → Int32) (L : List Nat) : Prop := ∀ i x, L[i]? = some x → N i = k 12 x ∧ P i = k 13 x
theorem hc_lis_add {k : hm_M} {N P : Nat → Int32} {L : List Nat} {c : Nat} (h : hc_lis k N P L) : hc_lis k (upd N L.length (k 12 c)) (upd P L.length (k 13 c)) (L ++ [c]) := by
  intro i x hx
  by_cases hi : i = L.length
  · subst hi
    rw [List.getElem?_append_right (Nat.le_refl _), Nat.sub_self] at hx
    cases hx
    exact ⟨if_pos rfl, if_pos rfl⟩
  · have h2 : i < L.length := by
      have := (List.getElem?_eq_some_iff.mp hx).1
      rw [List.length_append] at this
      have h4 : i < L.length + 1 := this
      omega
    rw [List.getElem?_append_left h2] at hx
    exact ⟨(if_neg hi).trans (h i x hx).1, (if_neg hi).trans (h i x hx).2⟩
theorem hc_lis_at {k : hm_M} {N P : Nat → Int32} {L : List Nat} (h : hc_lis k N P L) {i : Nat} (hi : i < L.length) : N i = hc_at (k 12) L i ∧ P i = hc_at (k 13) L i := by
  unfold hc_at
  rw [List.getElem?_eq_getElem hi]
  exact h i _ (List.getElem?_eq_getElem hi)
theorem hc_lis_V {k : hm_M} {N P : Nat → Int32} {L : List Nat} {nb : Nat} (h : hc_lis k N P L) : (if hm_sg N L.length ≤ nI nb then hc_ss (k 3) nb N P L.length 0 (nI 0) else none) = hc_V k nb L := by
  unfold hc_V
  rw [hm_sg_c L.length (fun i hi => (hc_lis_at h hi).1), hc_ss_c L.length 0 (nI 0) (fun i _ hi => hc_lis_at h (by omega))]
theorem hc_wl_lt (k : hm_M) (hour : Int32) : ∀ (j : Nat) (x : Nat), x ∈ hc_wl k hour j → x < j := by
  intro j
  induction j with
  | zero => intro x hx; cases hx
  | succ j ih =>
    intro x hx
    unfold hc_wl at hx
    split at hx
    · rcases List.mem_append.mp hx with h | h
      · exact Nat.lt_succ_of_lt (ih x h)
      · rw [List.mem_singleton.mp h]; exact Nat.lt_succ_self j
    · exact Nat.lt_succ_of_lt (ih x hx)
theorem hc_wl_mono (k : hm_M) (hour : Int32) (j : Nat) : ∀ i, ∃ R, hc_wl k hour (j + i) = hc_wl k hour j ++ R := by
  intro i
  induction i with
  | zero => exact ⟨[], (List.append_nil _).symm⟩
  | succ i ih =>
    obtain ⟨R, e⟩ := ih
    show ∃ R, (if hc_car k hour (j + i) = true then hc_wl k hour (j + i) ++ [j + i] else hc_wl k hour (j + i)) = _
    split
    · exact ⟨R ++ [j + i], by rw [e, List.append_assoc]⟩
    · exact ⟨R, e⟩
theorem hc_wl_le (k : hm_M) (hour : Int32) {j i : Nat} (h : j ≤ i) : (hc_wl k hour j).length ≤ (hc_wl k hour i).length := by
  obtain ⟨x, rfl⟩ := Nat.exists_eq_add_of_le h
  obtain ⟨R, e⟩ := hc_wl_mono k hour j x
  rw [e, List.length_append]
  omega
set_option maxRecDepth 20000 in
theorem l_83 {d n s : Nat} {k : hm_M} {ad : hm_AD} {g : Nat → Nat × Nat} {w : hm_W} {nc np : Nat} {h : Nat → Option va_E} {Q : Option Value → hm_H → Prop} (X : hm_D k ad g nc np n h) {c0 : Nat} {hour : Int32} (hL : (hc_wl k hour nc).length ≤ 4) (hK : ∀ (N P : Nat → Int32) (va : Value), hc_lis k N P (hc_wl k hour nc) → hm_T (d + 3) 83 65 [.ref 4, .ref (ad 1 c0), .int hour, .int (nI nc), va] [] (hm_hC (hc_kw k N P (hc_wl k hour nc).length) ad w h n s) Q) : ∀ (j i : Nat) (N P : Nat → Int32) (va : Value), va.category = 1 → i + j = nc → hc_lis k N P (hc_wl k hour i) → hm_T (d + 3) 83 9 [.ref 4, .ref (ad 1 c0), .int hour, .int (nI i), va] [] (hm_hC (hc_kw k N P (hc_wl k hour i).length) ad w h n s) Q := by
  intro j
  induction j with
  | zero =>
    intro i N P va hva hi hl
    refine r_iload_n k_83_9 rfl ?_
    refine r_aload_n k_83_10 rfl ?_
    refine r_get m_83 k_83_11 fl_7_58 rfl rfl ?_
    refine r_callv1 m_83 k_83_14 cl_7_124 m_41 (by decide) rfl rfl (Nat.le_of_ble_eq_true rfl) (Nat.le_of_ble_eq_true rfl) rfl rfl ?_
    refine s_41c (X.sc (hc_kw_s k N P (hc_wl k hour i).length)) ?_
    refine r_icmp_ge k_83_17 rfl (fun c_17 => ?_) (fun z => absurd (nI_le (show nc ≤ i by omega) (by have := X.nc16; omega)) z)
    rw [show i = nc by omega] at hl ⊢
    exact hK N P va hl
  | succ j ih =>
    intro i N P va hva hi hl
    refine r_iload_n k_83_9 rfl ?_
    refine r_aload_n k_83_10 rfl ?_
    refine r_get m_83 k_83_11 fl_7_58 rfl rfl ?_
    refine r_callv1 m_83 k_83_14 cl_7_124 m_41 (by decide) rfl rfl (Nat.le_of_ble_eq_true rfl) (Nat.le_of_ble_eq_true rfl) rfl rfl ?_
    refine s_41c (X.sc (hc_kw_s k N P (hc_wl k hour i).length)) ?_
    refine r_icmp_ge k_83_17 rfl (fun z => absurd z (nI_ge (show i < nc by omega) (by have := X.nc16; omega))) (fun c_17 => ?_)
    refine r_aload_n k_83_20 rfl ?_
    refine r_get m_83 k_83_21 fl_7_58 rfl rfl ?_
    refine r_iload_n k_83_24 rfl ?_
    refine r_callv2 m_83 k_83_25 cl_7_128 m_42 (by decide) rfl rfl (Nat.le_of_ble_eq_true rfl) (Nat.le_of_ble_eq_true rfl) rfl rfl ?_
    refine s_42c (X.sc (hc_kw_s k N P (hc_wl k hour i).length)) (c := i) (by omega) ?_
    refine r_cast m_83 k_83_28 nl_7_132 (rD_1 (X.sc (hc_kw_s k N P (hc_wl k hour i).length)) (show i < nc by omega)) ?_
    refine r_astore k_83_31 rfl ?_
    refine r_aload k_83_33 rfl ?_
    refine r_iload_n k_83_35 rfl ?_
    refine r_callv2 m_83 k_83_36 cl_7_228 m_85 (by decide) rfl rfl (Nat.le_of_ble_eq_true rfl) (Nat.le_of_ble_eq_true rfl) (rD_1 (X.sc (hc_kw_s k N P (hc_wl k hour i).length)) (by omega)) rfl ?_
    refine s_85 (X.sc (hc_kw_s k N P (hc_wl k hour i).length)) (c := i) (by omega) ?_
    rw [show (decide (hc_kw k N P (hc_wl k hour i).length (100 + 2 * i) 1 = hour ∨ hc_kw k N P (hc_wl k hour i).length (100 + 2 * i) 3 = hour)) = hc_car k hour i by rw [hc_kw_s k N P (hc_wl k hour i).length (100 + 2 * i) (by omega)]; rfl]
    refine r_if_eq k_83_39 rfl (fun c_39 => ?_) (fun c_39 => ?_)
    · have c_39 := hm_bi0 c_39
      refine r_iincn k_83_59 rfl (nI_inc i) rfl ?_
      refine r_goto k_83_62 rfl ?_
      have eL : hc_wl k hour (i + 1) = hc_wl k hour i := if_neg (by rw [c_39]; decide)
      have e := ih (i + 1) N P (.ref (ad 1 i)) rfl (by omega)
      rw [eL] at e
      exact e hl
    · have c_39 := hm_bi1 c_39
      have eL : hc_wl k hour (i + 1) = hc_wl k hour i ++ [i] := if_pos c_39
      have hL4 : (hc_wl k hour i).length < 4 := by
        have e1 := hc_wl_le k hour (show i + 1 ≤ nc by omega)
        rw [eL, List.length_append] at e1
        have e2 : [i].length = 1 := rfl
        omega
      refine r_aload_n k_83_42 rfl ?_
      refine r_get m_83 k_83_43 fl_7_19 rfl rfl ?_
      refine r_aload k_83_46 rfl ?_
      refine r_get m_83 k_83_48 fl_7_231 (rD_1 (X.sc (hc_kw_s k N P (hc_wl k hour i).length)) (show i < nc by omega)) rfl ?_
      refine r_aload k_83_51 rfl ?_
      refine r_get m_83 k_83_53 fl_7_234 (rD_1 (X.sc (hc_kw_s k N P (hc_wl k hour i).length)) (show i < nc by omega)) rfl ?_
      refine r_callv3 m_83 k_83_56 cl_7_237 m_86 (by decide) rfl rfl (Nat.le_of_ble_eq_true rfl) (Nat.le_of_ble_eq_true rfl) rfl rfl ?_
      refine s_86 (W := (hc_wl k hour i).length) rfl hL4 ?_
      rw [hc_kw_w]
      refine r_iincn k_83_59 rfl (nI_inc i) rfl ?_
      refine r_goto k_83_62 rfl ?_
      have e := ih (i + 1) (upd N (hc_wl k hour i).length (k 12 i)) (upd P (hc_wl k hour i).length (k 13 i)) (.ref (ad 1 i)) rfl (by omega)
      rw [eL, List.length_append] at e
      exact e (hc_lis_add hl)
set_option maxRecDepth 20000 in
theorem s_83 {d n s : Nat} {k : hm_M} {ad : hm_AD} {g : Nat → Nat × Nat} {w : hm_W} {nc np : Nat} {h : Nat → Option va_E} {Q : Option Value → hm_H → Prop} (X : hm_D k ad g nc np n h) {c : Nat} (hc : c < nc) {hour : Int32} (h12 : ∀ c, c < nc → ∃ nd, k 12 c = nI nd ∧ nd ≤ 6) {nb : Nat} (hb : k 2 0 = nI nb) (hb12 : nb ≤ 12) (hL : (hc_wl k hour nc).length ≤ 3) (hQ : ∀ k2 w2, hc_sc k k2 → Q (some (.int (hm_bi (hc_V k nb (hc_wl k hour nc ++ [c])).isSome))) (hm_hC k2 ad w2 h n s)) : hm_T (d + 47) 83 0 [.ref 4, .ref (ad 1 c), .int hour, .retAddr 0, .retAddr 0] [] (hm_hC k ad w h n s) Q := by
  refine r_aload_n k_83_0 rfl ?_
  refine r_get m_83 k_83_1 fl_7_19 rfl rfl ?_
  refine r_callv1 m_83 k_83_4 cl_7_225 m_84 (by decide) rfl rfl (Nat.le_of_ble_eq_true rfl) (Nat.le_of_ble_eq_true rfl) rfl rfl ?_
  refine s_84 ?_
  rw [hc_kw_0]
  refine r_iconst k_83_7 ci_0 ?_
  refine r_istore_n k_83_8 rfl ?_
  refine l_83 X (by omega) (fun N P va hl => ?_) nc 0 (k 37) (k 38) _ rfl (by omega) (fun i x hx => by cases hx)
  refine r_aload_n k_83_65 rfl ?_
  refine r_get m_83 k_83_66 fl_7_19 rfl rfl ?_
  refine r_aload_n k_83_69 rfl ?_
  refine r_get m_83 k_83_70 fl_7_231 (rD_1 (X.sc (hc_kw_s k N P (hc_wl k hour nc).length)) hc) rfl ?_
  refine r_aload_n k_83_73 rfl ?_
  refine r_get m_83 k_83_74 fl_7_234 (rD_1 (X.sc (hc_kw_s k N P (hc_wl k hour nc).length)) hc) rfl ?_
  refine r_callv3 m_83 k_83_77 cl_7_237 m_86 (by decide) rfl rfl (Nat.le_of_ble_eq_true rfl) (Nat.le_of_ble_eq_true rfl) rfl rfl ?_
  refine s_86 (W := (hc_wl k hour nc).length) rfl (by omega) ?_
  rw [hc_kw_w]
  refine r_aload_n k_83_80 rfl ?_
  refine r_get m_83 k_83_81 fl_7_19 rfl rfl ?_
  refine r_callv1 m_83 k_83_84 cl_7_241 m_87 (by decide) rfl rfl (Nat.le_of_ble_eq_true rfl) (Nat.le_of_ble_eq_true rfl) rfl rfl ?_
  have hl2 := hc_lis_add (c := c) hl
  have eLn : (hc_wl k hour nc ++ [c]).length = (hc_wl k hour nc).length + 1 := by rw [List.length_append]; rfl
  rw [← eLn]
  refine s_87 (k := hc_kw k _ _ (hc_wl k hour nc ++ [c]).length) (nb := nb) (W := (hc_wl k hour nc ++ [c]).length) hb hb12 rfl (by omega) (fun i hi => ?_) (fun w2 S2 ps e1 e2 => ?_) (fun w2 S2 e1 => ?_)
  · show ∃ nd, upd N (hc_wl k hour nc).length (k 12 c) i = nI nd ∧ nd ≤ 6
    rw [(hc_lis_at hl2 hi).1]
    unfold hc_at
    rw [List.getElem?_eq_getElem hi]
    have hm := List.getElem_mem hi
    rcases List.mem_append.mp hm with h1 | h1
    · exact h12 _ (hc_wl_lt k hour nc _ h1)
    · exact h12 _ (by rw [show (hc_wl k hour nc ++ [c])[i] = c from List.mem_singleton.mp h1]; exact hc)
  · refine r_retz m_83 k_83_87 rfl (Or.inr rfl) ?_
    have e3 : hc_V k nb (hc_wl k hour nc ++ [c]) = some ps := (hc_lis_V hl2).symm.trans e1
    have e4 := hQ _ w2 (hc_kw_sc k (upd N (hc_wl k hour nc).length (k 12 c)) (upd P (hc_wl k hour nc).length (k 13 c)) S2 (hc_wl k hour nc ++ [c]).length)
    rw [e3] at e4
    exact e4
  · refine r_retz m_83 k_83_87 rfl (Or.inl rfl) ?_
    have e3 : hc_V k nb (hc_wl k hour nc ++ [c]) = none := (hc_lis_V hl2).symm.trans e1
    have e4 := hQ _ w2 (hc_kw_sc k (upd N (hc_wl k hour nc).length (k 12 c)) (upd P (hc_wl k hour nc).length (k 13 c)) S2 (hc_wl k hour nc ++ [c]).length)
    rw [e3] at e4
    exact e4
