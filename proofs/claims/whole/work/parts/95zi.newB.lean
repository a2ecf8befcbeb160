theorem r_copy {d M pc ix nst w a K N : Nat} {ls r : List Value} {hp hp2 : hm_H} {Q : Option Value → hm_H → Prop} {q : hm_Q} {f : Nat → Option Nat} (hq : hm_mtab[M]? = some q) (hI : hm_code M pc = some (.invokestatic ix)) (hf : hm_ctab.lookup (q.2.2.2.2.1, ix) = some (72, nst, w)) (ha : hp.1 a = some (.inl (6, K, .inr (.inr (.inr (.inr f)))))) (hN : N ≤ 100000) (hK : K ≤ N) (hr : r.length ≤ 4) (hob : hm_objs hp f K = true) (he : hm_push hp (.inl (6, N, .inr (.inr (.inr (.inr (fun j => if j < K then f j else none)))))) N = hp2) (hd : 4 ≤ d) (h : hm_T (d + 1) M (pc + 3) ls (.ref (hp.2.1 + 4) :: r) hp2 Q) : hm_T (d + 1) M pc ls (.int (nI N) :: .ref a :: r) hp Q := by
  have e : (nI N).toNatClampNeg = N := nI_clamp (by omega)
  subst he
  refine hm_T.copy hq hI (fun _ => rfl) (by unfold hm_step hm_s1 hm_s2 hm_s3 hm_s4 hm_s5 hm_s6 hm_s7; unfold hm_s8; rfl) ?_ ?_ hd h
  · unfold hm_cal hm_tgt
    dsimp only
    rw [hf]
    dsimp only [Option.map_some]
    rw [m_72]
    exact if_neg (fun z => z.1.2.2 rfl)
  · have e2 : hm_cpy q (.invokestatic ix) (.int (nI N) :: .ref a :: r) hp = (match hp.1 a with
        | some (.inl (6, k, .inr (.inr (.inr (.inr f))))) => if (¬ nI N < 0 ∧ (nI N).toNatClampNeg ≤ 100000) ∧ k ≤ (nI N).toNatClampNeg ∧ r.length ≤ 4 ∧ hm_objs hp f k = true then some (hp.2.1 + 4, r, hm_push hp (.inl (6, (nI N).toNatClampNeg, .inr (.inr (.inr (.inr (fun j => if j < k then f j else none)))))) (nI N).toNatClampNeg) else none
        | _ => none) := by
      unfold hm_cpy hm_tgt
      dsimp only
      rw [hf]
      rfl
    rw [e2, ha]
    show (if _ then _ else none) = _
    rw [e]
    exact if_pos ⟨⟨nI_pos (by omega), hN⟩, hK, hr, hob⟩
def hc_ua (ad : hm_AD) (a i x : Nat) : hm_AD := fun b j => if b = a ∧ j = i then x else ad b j
theorem hc_ua_o {ad : hm_AD} {a i x b : Nat} (h : ¬ b = a) : hc_ua ad a i x b = ad b := by
  funext j
  exact if_neg (fun z => h z.1)
theorem wC_52 {k : hm_M} {ad : hm_AD} {w : hm_W} {h : Nat → Option va_E} {n s : Nat} (x : Int32) : hm_set (hm_hC k ad w h n s) 35 (.inr (9, ([.int (k 52 0), .ref (ad 3 0), .int (k 9 0)] : List Value).set 0 (.int x))) = hm_hC (hm_uM k 52 (fun _ => x)) ad w h n s := hm_seg_set (k := 31) (Nat.le_of_ble_eq_true rfl) rfl rfl
theorem wC_9 {k : hm_M} {ad : hm_AD} {w : hm_W} {h : Nat → Option va_E} {n s : Nat} (x : Int32) : hm_set (hm_hC k ad w h n s) 35 (.inr (9, ([.int (k 52 0), .ref (ad 3 0), .int (k 9 0)] : List Value).set 2 (.int x))) = hm_hC (hm_uM k 9 (fun _ => x)) ad w h n s := hm_seg_set (k := 31) (Nat.le_of_ble_eq_true rfl) rfl rfl
theorem wC_e3 {k : hm_M} {ad : hm_AD} {w : hm_W} {h : Nat → Option va_E} {n s : Nat} (x : Nat) : hm_set (hm_hC k ad w h n s) 35 (.inr (9, ([.int (k 52 0), .ref (ad 3 0), .int (k 9 0)] : List Value).set 1 (.ref x))) = hm_hC k (hc_ua ad 3 0 x) w h n s := hm_seg_set (k := 31) (Nat.le_of_ble_eq_true rfl) rfl rfl
theorem hc_la_c {ad : hm_AD} {m c1 e1 : Nat} (A2 : hm_AD) (h2 : A2 3 2 = m + 1) (h1 : A2 1 = ad 1) (f : Nat → Option Nat) (hf : ∀ j, f j = (if j < m then some (ad 1 j) else none)) : hm_la (A2 3) (A2 1) = va_up f m (some (ad 1 m)) := by
  funext j
  show (if j < A2 3 2 then some (A2 1 j) else none) = (if j = m then some (ad 1 m) else f j)
  rw [h2, h1, hf]
  by_cases hj : j = m
  · subst hj
    rw [if_pos rfl, if_pos (by omega)]
  · rw [if_neg hj]
    by_cases hl : j < m
    · rw [if_pos hl, if_pos (by omega)]
    · rw [if_neg hl, if_neg (by omega)]
theorem hc_Dc {k : hm_M} {ad : hm_AD} {g : Nat → Nat × Nat} {nc np n : Nat} {h : Nat → Option va_E} (X : hm_D k ad g nc np n h) (h16 : nc < 16) (hb : g (ad 1 nc) = (1, nc) ∧ g (ad 1 nc + 1) = (2, nc) ∧ g (ad 1 nc + 2) = (3, nc)) (hfa : ∃ f, k 10 nc = nI f ∧ f < 4) {A2 : hm_AD} {g2 : Nat → Nat × Nat} {h2 : Nat → Option va_E} {n2 cap : Nat} {E : va_E} (hA : ∀ i, ¬ i = 3 → A2 i = ad i) (hA1 : A2 3 1 = cap) (hA2 : A2 3 2 = nc + 1) (hcap : nc + 1 ≤ cap) (hcap2 : cap ≤ 100) (hg : g2 (A2 3 0) = (5, 0)) (hgo : ∀ j, ¬ j = A2 3 0 → (g2 j).1 ≠ 0 → g2 j = g j ∧ ¬ (5 ≤ (g j).1 ∧ (g j).2 = 0)) (hgk : ∀ j, ¬ (5 ≤ (g j).1 ∧ (g j).2 = 0) → (g j).1 ≠ 0 → g2 j = g j) (hE : E = .inl (6, cap, .inr (.inr (.inr (.inr (hm_la (A2 3) (A2 1))))))) (hh : h2 = hm_up h (A2 3 0) E) (hn : n ≤ n2) (hr : 84 ≤ A2 3 0 ∧ A2 3 0 < n2 + 4) : hm_D (hm_uM k 9 (fun _ => nI (nc + 1))) A2 g2 (nc + 1) np n2 h2 ∧ hm_lo h h2 := by
  have hlo : hm_lo h h2 := fun j hj => by rw [hh]; exact hm_up_o (by omega)
  have hk : ∀ j, ¬ j = 9 → (hm_uM k 9 (fun _ => nI (nc + 1))) j = k j := fun j hj => if_neg hj
  have hdc : ∀ y : Nat × Nat, ¬ (5 ≤ y.1 ∧ y.2 = 0) → y.1 ≠ 0 → hm_dc (hm_uM k 9 (fun _ => nI (nc + 1))) A2 y = hm_dc k ad y := by
    rintro ⟨a, b⟩ hy hy0
    unfold hm_dc
    dsimp only at hy hy0 ⊢
    by_cases e1 : a = 1
    · rw [if_pos e1, if_pos e1]
      unfold hm_cf
      rw [hA 1 (by decide), hk 10 (by decide), hk 11 (by decide), hk 12 (by decide), hk 13 (by decide), hk 34 (by decide), hk 16 (by decide)]
    rw [if_neg e1, if_neg e1]
    by_cases e2 : a = 2
    · rw [if_pos e2, if_pos e2, hk _ (by omega)]
    rw [if_neg e2, if_neg e2]
    by_cases e3 : a = 3
    · rw [if_pos e3, if_pos e3, hk _ (by omega)]
    rw [if_neg e3, if_neg e3]
    by_cases e4 : a = 4
    · rw [if_pos e4, if_pos e4]
      unfold hm_pf
      rw [hk 19 (by decide), hk 20 (by decide), hk 21 (by decide), hk 33 (by decide), hk 22 (by decide)]
    rw [if_neg e4, if_neg e4]
    rw [if_neg (fun z => hy ⟨by omega, z⟩), if_neg (fun z => hy ⟨by omega, z⟩)]
    rw [hA 2 (by decide), hA 4 (by decide)]
  refine ⟨⟨fun j hj => ?_, fun i j hi hij => ?_, fun c hc => ?_, fun q hq => ?_, fun j hj => ?_, rfl, by omega, (congrFun (hk 18 (by decide)) 0).trans X.np, X.np16, Or.inr ⟨hg, by omega, by omega, hA2, by omega⟩, ?_, by rw [hA 0 (by decide)]; exact X.p, by rw [hA 0 (by decide)]; exact X.pi, (hlo 1 (by decide)).trans X.h1, (hlo 2 (by decide)).trans X.h2, (hlo 3 (by decide)).trans X.h3, fun c hc => ?_⟩, hlo⟩
  · by_cases hje : j = A2 3 0
    · rw [hh, hje, hm_up_s, hg, hE, ← hA1]
      rfl
    · obtain ⟨e1, e2⟩ := hgo j hje hj
      have hj2 : (g j).1 ≠ 0 := by rw [← e1]; exact hj
      rw [hh, hm_up_o hje, e1, X.at j hj2, hdc _ e2 hj2]
  · by_cases hie : i = A2 3 0
    · by_cases hje : j = A2 3 0
      · rw [hie, hje]
      · have hj0 : (g2 j).1 ≠ 0 := by rw [← hij]; exact hi
        obtain ⟨e1, e2⟩ := hgo j hje hj0
        rw [hie, hg, e1] at hij
        exact absurd (show 5 ≤ (g j).1 ∧ (g j).2 = 0 from by rw [← hij]; decide) e2
    · obtain ⟨e1, e2⟩ := hgo i hie hi
      by_cases hje : j = A2 3 0
      · rw [hje, hg, e1] at hij
        exact absurd (show 5 ≤ (g i).1 ∧ (g i).2 = 0 from by rw [hij]; decide) e2
      · have hj0 : (g2 j).1 ≠ 0 := by rw [← hij]; exact hi
        obtain ⟨e3, e4⟩ := hgo j hje hj0
        rw [e1, e3] at hij
        exact X.inj i j (by rw [← e1]; exact hi) hij
  · rw [hA 1 (by decide)]
    have key : g (ad 1 c) = (1, c) ∧ g (ad 1 c + 1) = (2, c) ∧ g (ad 1 c + 2) = (3, c) := by
      rcases Nat.lt_or_ge c nc with h1 | h1
      · exact X.cs c h1
      · rw [show c = nc by omega]; exact hb
    refine ⟨?_, ?_, ?_⟩
    · rw [hgk _ (by rw [key.1]; exact fun z => absurd z.1 (show ¬ 5 ≤ 1 by decide)) (by rw [key.1]; exact (show (1 : Nat) ≠ 0 by decide))]; exact key.1
    · rw [hgk _ (by rw [key.2.1]; exact fun z => absurd z.1 (show ¬ 5 ≤ 2 by decide)) (by rw [key.2.1]; exact (show (2 : Nat) ≠ 0 by decide))]; exact key.2.1
    · rw [hgk _ (by rw [key.2.2]; exact fun z => absurd z.1 (show ¬ 5 ≤ 3 by decide)) (by rw [key.2.2]; exact (show (3 : Nat) ≠ 0 by decide))]; exact key.2.2
  · rw [hA 2 (by decide)]
    have key : g (ad 2 q) = (4, q) := X.pl q hq
    rw [hgk _ (by rw [key]; exact fun z => absurd z.1 (show ¬ 5 ≤ 4 by decide)) (by rw [key]; exact (show (4 : Nat) ≠ 0 by decide))]; exact key
  · by_cases hje : j = A2 3 0
    · rw [hje]; exact hr
    · obtain ⟨e1, e2⟩ := hgo j hje hj
      have := X.rg j (by rw [← e1]; exact hj)
      omega
  · rw [hA 4 (by decide)]
    rcases X.l2 with h1 | h1
    · exact Or.inl h1
    · exact Or.inr ⟨by rw [hgk _ (by rw [h1.1]; exact fun z => absurd z.2 (show ¬ (1 : Nat) = 0 by decide)) (by rw [h1.1]; exact (show (5 : Nat) ≠ 0 by decide))]; exact h1.1, h1.2⟩
  · rw [hk 10 (by decide)]
    exact (by
      rcases Nat.lt_or_ge c nc with h1 | h1
      · exact X.fa c h1
      · rw [show c = nc by omega]; exact hfa)
theorem wC_53 {k : hm_M} {ad : hm_AD} {w : hm_W} {h : Nat → Option va_E} {n s : Nat} (x : Int32) : hm_set (hm_hC k ad w h n s) 36 (.inr (9, ([.int (k 53 0), .ref (ad 4 0), .int (k 18 0)] : List Value).set 0 (.int x))) = hm_hC (hm_uM k 53 (fun _ => x)) ad w h n s := hm_seg_set (k := 32) (Nat.le_of_ble_eq_true rfl) rfl rfl
theorem wC_18 {k : hm_M} {ad : hm_AD} {w : hm_W} {h : Nat → Option va_E} {n s : Nat} (x : Int32) : hm_set (hm_hC k ad w h n s) 36 (.inr (9, ([.int (k 53 0), .ref (ad 4 0), .int (k 18 0)] : List Value).set 2 (.int x))) = hm_hC (hm_uM k 18 (fun _ => x)) ad w h n s := hm_seg_set (k := 32) (Nat.le_of_ble_eq_true rfl) rfl rfl
theorem wC_e4 {k : hm_M} {ad : hm_AD} {w : hm_W} {h : Nat → Option va_E} {n s : Nat} (x : Nat) : hm_set (hm_hC k ad w h n s) 36 (.inr (9, ([.int (k 53 0), .ref (ad 4 0), .int (k 18 0)] : List Value).set 1 (.ref x))) = hm_hC k (hc_ua ad 4 0 x) w h n s := hm_seg_set (k := 32) (Nat.le_of_ble_eq_true rfl) rfl rfl
theorem hc_la_q {ad : hm_AD} {m c1 e1 : Nat} (A2 : hm_AD) (h2 : A2 4 2 = m + 1) (h1 : A2 2 = ad 2) (f : Nat → Option Nat) (hf : ∀ j, f j = (if j < m then some (ad 2 j) else none)) : hm_la (A2 4) (A2 2) = va_up f m (some (ad 2 m)) := by
  funext j
  show (if j < A2 4 2 then some (A2 2 j) else none) = (if j = m then some (ad 2 m) else f j)
  rw [h2, h1, hf]
  by_cases hj : j = m
  · subst hj
    rw [if_pos rfl, if_pos (by omega)]
  · rw [if_neg hj]
    by_cases hl : j < m
    · rw [if_pos hl, if_pos (by omega)]
    · rw [if_neg hl, if_neg (by omega)]
theorem hc_Dq {k : hm_M} {ad : hm_AD} {g : Nat → Nat × Nat} {nc np n : Nat} {h : Nat → Option va_E} (X : hm_D k ad g nc np n h) (h16 : np < 16) (hb : g (ad 2 np) = (4, np)) {A2 : hm_AD} {g2 : Nat → Nat × Nat} {h2 : Nat → Option va_E} {n2 cap : Nat} {E : va_E} (hA : ∀ i, ¬ i = 4 → A2 i = ad i) (hA1 : A2 4 1 = cap) (hA2 : A2 4 2 = np + 1) (hcap : np + 1 ≤ cap) (hcap2 : cap ≤ 100) (hg : g2 (A2 4 0) = (5, 1)) (hgo : ∀ j, ¬ j = A2 4 0 → (g2 j).1 ≠ 0 → g2 j = g j ∧ ¬ (5 ≤ (g j).1 ∧ ¬ (g j).2 = 0)) (hgk : ∀ j, ¬ (5 ≤ (g j).1 ∧ ¬ (g j).2 = 0) → (g j).1 ≠ 0 → g2 j = g j) (hE : E = .inl (6, cap, .inr (.inr (.inr (.inr (hm_la (A2 4) (A2 2))))))) (hh : h2 = hm_up h (A2 4 0) E) (hn : n ≤ n2) (hr : 84 ≤ A2 4 0 ∧ A2 4 0 < n2 + 4) : hm_D (hm_uM k 18 (fun _ => nI (np + 1))) A2 g2 nc (np + 1) n2 h2 ∧ hm_lo h h2 := by
  have hlo : hm_lo h h2 := fun j hj => by rw [hh]; exact hm_up_o (by omega)
  have hk : ∀ j, ¬ j = 18 → (hm_uM k 18 (fun _ => nI (np + 1))) j = k j := fun j hj => if_neg hj
  have hdc : ∀ y : Nat × Nat, ¬ (5 ≤ y.1 ∧ ¬ y.2 = 0) → y.1 ≠ 0 → hm_dc (hm_uM k 18 (fun _ => nI (np + 1))) A2 y = hm_dc k ad y := by
    rintro ⟨a, b⟩ hy hy0
    unfold hm_dc
    dsimp only at hy hy0 ⊢
    by_cases e1 : a = 1
    · rw [if_pos e1, if_pos e1]
      unfold hm_cf
      rw [hA 1 (by decide), hk 10 (by decide), hk 11 (by decide), hk 12 (by decide), hk 13 (by decide), hk 34 (by decide), hk 16 (by decide)]
    rw [if_neg e1, if_neg e1]
    by_cases e2 : a = 2
    · rw [if_pos e2, if_pos e2, hk _ (by omega)]
    rw [if_neg e2, if_neg e2]
    by_cases e3 : a = 3
    · rw [if_pos e3, if_pos e3, hk _ (by omega)]
    rw [if_neg e3, if_neg e3]
    by_cases e4 : a = 4
    · rw [if_pos e4, if_pos e4]
      unfold hm_pf
      rw [hk 19 (by decide), hk 20 (by decide), hk 21 (by decide), hk 33 (by decide), hk 22 (by decide)]
    rw [if_neg e4, if_neg e4]
    rw [if_pos (Decidable.of_not_not (fun z => hy ⟨by omega, z⟩)), if_pos (Decidable.of_not_not (fun z => hy ⟨by omega, z⟩))]
    rw [hA 1 (by decide), hA 3 (by decide)]
  refine ⟨⟨fun j hj => ?_, fun i j hi hij => ?_, fun c hc => ?_, fun q hq => ?_, fun j hj => ?_, (congrFun (hk 9 (by decide)) 0).trans X.nc, X.nc16, rfl, by omega, ?_, Or.inr ⟨hg, by omega, by omega, hA2, by omega⟩, by rw [hA 0 (by decide)]; exact X.p, by rw [hA 0 (by decide)]; exact X.pi, (hlo 1 (by decide)).trans X.h1, (hlo 2 (by decide)).trans X.h2, (hlo 3 (by decide)).trans X.h3, fun c hc => ?_⟩, hlo⟩
  · by_cases hje : j = A2 4 0
    · rw [hh, hje, hm_up_s, hg, hE, ← hA1]
      rfl
    · obtain ⟨e1, e2⟩ := hgo j hje hj
      have hj2 : (g j).1 ≠ 0 := by rw [← e1]; exact hj
      rw [hh, hm_up_o hje, e1, X.at j hj2, hdc _ e2 hj2]
  · by_cases hie : i = A2 4 0
    · by_cases hje : j = A2 4 0
      · rw [hie, hje]
      · have hj0 : (g2 j).1 ≠ 0 := by rw [← hij]; exact hi
        obtain ⟨e1, e2⟩ := hgo j hje hj0
        rw [hie, hg, e1] at hij
        exact absurd (show 5 ≤ (g j).1 ∧ ¬ (g j).2 = 0 from by rw [← hij]; decide) e2
    · obtain ⟨e1, e2⟩ := hgo i hie hi
      by_cases hje : j = A2 4 0
      · rw [hje, hg, e1] at hij
        exact absurd (show 5 ≤ (g i).1 ∧ ¬ (g i).2 = 0 from by rw [hij]; decide) e2
      · have hj0 : (g2 j).1 ≠ 0 := by rw [← hij]; exact hi
        obtain ⟨e3, e4⟩ := hgo j hje hj0
        rw [e1, e3] at hij
        exact X.inj i j (by rw [← e1]; exact hi) hij
  · rw [hA 1 (by decide)]
    have key : g (ad 1 c) = (1, c) ∧ g (ad 1 c + 1) = (2, c) ∧ g (ad 1 c + 2) = (3, c) := X.cs c hc
    refine ⟨?_, ?_, ?_⟩
    · rw [hgk _ (by rw [key.1]; exact fun z => absurd z.1 (show ¬ 5 ≤ 1 by decide)) (by rw [key.1]; exact (show (1 : Nat) ≠ 0 by decide))]; exact key.1
    · rw [hgk _ (by rw [key.2.1]; exact fun z => absurd z.1 (show ¬ 5 ≤ 2 by decide)) (by rw [key.2.1]; exact (show (2 : Nat) ≠ 0 by decide))]; exact key.2.1
    · rw [hgk _ (by rw [key.2.2]; exact fun z => absurd z.1 (show ¬ 5 ≤ 3 by decide)) (by rw [key.2.2]; exact (show (3 : Nat) ≠ 0 by decide))]; exact key.2.2
  · rw [hA 2 (by decide)]
    have key : g (ad 2 q) = (4, q) := by
      rcases Nat.lt_or_ge q np with h1 | h1
      · exact X.pl q h1
      · rw [show q = np by omega]; exact hb
    rw [hgk _ (by rw [key]; exact fun z => absurd z.1 (show ¬ 5 ≤ 4 by decide)) (by rw [key]; exact (show (4 : Nat) ≠ 0 by decide))]; exact key
  · by_cases hje : j = A2 4 0
    · rw [hje]; exact hr
    · obtain ⟨e1, e2⟩ := hgo j hje hj
      have := X.rg j (by rw [← e1]; exact hj)
      omega
  · rw [hA 3 (by decide)]
    rcases X.l1 with h1 | h1
    · exact Or.inl h1
    · exact Or.inr ⟨by rw [hgk _ (by rw [h1.1]; exact fun z => absurd z.2 (show ¬ ¬ (0 : Nat) = 0 by decide)) (by rw [h1.1]; exact (show (5 : Nat) ≠ 0 by decide))]; exact h1.1, h1.2⟩
  · rw [hk 10 (by decide)]
    exact X.fa c hc
