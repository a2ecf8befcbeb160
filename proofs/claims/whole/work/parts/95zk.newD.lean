def hc_kc0 (k : hm_M) (c : Nat) (f de ne sp : Int32) : hm_M := hm_uM (hm_uM (hm_uM (hm_uM (hm_uM (hm_uM k 10 (upd (k 10) c f)) 11 (upd (k 11) c de)) 12 (upd (k 12) c ne)) 13 (upd (k 13) c sp)) 34 (upd (k 34) c (-1))) 16 (upd (k 16) c (nI 0))
def hc_kc (k : hm_M) (c : Nat) (f de ne sp : Int32) (f6 f4 : Nat → Int32) : hm_M := hm_uM (hm_uM (hc_kc0 k c f de ne sp) (100 + 2 * c) f4) (101 + 2 * c) f6
theorem hc_kc_lo {k : hm_M} {c j : Nat} {f de ne sp : Int32} {f6 f4 : Nat → Int32} (hj : j < 100) : hc_kc k c f de ne sp f6 f4 j = hc_kc0 k c f de ne sp j := (if_neg (by omega)).trans (if_neg (by omega))
theorem hc_kc_h {k : hm_M} {c c2 : Nat} {f de ne sp : Int32} {f6 f4 : Nat → Int32} : hc_kc k c f de ne sp f6 f4 (100 + 2 * c2) = (if c2 = c then f4 else k (100 + 2 * c2)) := by
  refine (if_neg (by omega)).trans ?_
  show (if 100 + 2 * c2 = 100 + 2 * c then f4 else hc_kc0 k c f de ne sp (100 + 2 * c2)) = _
  by_cases h : c2 = c
  · rw [if_pos h, if_pos (by omega)]
  · rw [if_neg h, if_neg (by omega)]
    exact (if_neg (by omega)).trans ((if_neg (by omega)).trans ((if_neg (by omega)).trans ((if_neg (by omega)).trans ((if_neg (by omega)).trans (if_neg (by omega))))))
theorem hc_kc_p {k : hm_M} {c c2 : Nat} {f de ne sp : Int32} {f6 f4 : Nat → Int32} : hc_kc k c f de ne sp f6 f4 (101 + 2 * c2) = (if c2 = c then f6 else k (101 + 2 * c2)) := by
  show (if 101 + 2 * c2 = 101 + 2 * c then f6 else hm_uM (hc_kc0 k c f de ne sp) (100 + 2 * c) f4 (101 + 2 * c2)) = _
  by_cases h : c2 = c
  · rw [if_pos h, if_pos (by omega)]
  · rw [if_neg h, if_neg (by omega)]
    exact (if_neg (by omega)).trans ((if_neg (by omega)).trans ((if_neg (by omega)).trans ((if_neg (by omega)).trans ((if_neg (by omega)).trans ((if_neg (by omega)).trans (if_neg (by omega)))))))
theorem hc_kc_st {k : hm_M} {c x : Nat} {f de ne sp : Int32} {f6 f4 : Nat → Int32} {ad : hm_AD} {w : hm_W} : hm_cC (hc_kc k c f de ne sp f6 f4) (hc_ua ad 1 c x) w = hm_cC k ad w := by
  rw [hm_cC_c (k := hc_kc0 k c f de ne sp) (fun j hj => hc_kc_lo (by omega))]
  rfl
def hc_gn (g : Nat → Nat × Nat) (a c : Nat) : Nat → Nat × Nat := fun j => if j = a then (1, c) else if j = a + 1 then (2, c) else if j = a + 2 then (3, c) else if 1 ≤ (g j).1 ∧ (g j).1 ≤ 3 ∧ (g j).2 = c then (0, 0) else g j
theorem hc_gn_o {g : Nat → Nat × Nat} {a c j : Nat} (h1 : ¬ j = a) (h2 : ¬ j = a + 1) (h3 : ¬ j = a + 2) (h0 : (hc_gn g a c j).1 ≠ 0) : hc_gn g a c j = g j ∧ ¬ (1 ≤ (g j).1 ∧ (g j).1 ≤ 3 ∧ (g j).2 = c) := by
  have e1 : hc_gn g a c j = (if 1 ≤ (g j).1 ∧ (g j).1 ≤ 3 ∧ (g j).2 = c then (0, 0) else g j) := (if_neg h1).trans ((if_neg h2).trans (if_neg h3))
  by_cases hc : 1 ≤ (g j).1 ∧ (g j).1 ≤ 3 ∧ (g j).2 = c
  · rw [e1, if_pos hc] at h0
    exact absurd rfl h0
  · exact ⟨by rw [e1, if_neg hc], hc⟩
theorem hc_gn_k {g : Nat → Nat × Nat} {a c j : Nat} (h1 : ¬ j = a) (h2 : ¬ j = a + 1) (h3 : ¬ j = a + 2) (hc : ¬ (1 ≤ (g j).1 ∧ (g j).1 ≤ 3 ∧ (g j).2 = c)) : hc_gn g a c j = g j := (if_neg h1).trans ((if_neg h2).trans ((if_neg h3).trans (if_neg hc)))
theorem hc_Dn {k : hm_M} {ad : hm_AD} {g : Nat → Nat × Nat} {nc np n : Nat} {h : Nat → Option va_E} (X : hm_D k ad g nc np n h) (hn80 : 80 ≤ n) {f de ne sp : Int32} {f6 f4 : Nat → Int32} : hm_D (hc_kc k nc f de ne sp f6 f4) (hc_ua ad 1 nc (n + 4)) (hc_gn g (n + 4) nc) nc np (n + 3) (hc_u3 h (n + 4) (hc_co f de ne sp (n + 4)) (.inl (0, 6, .inl f6)) (.inl (0, 4, .inl f4))) ∧ hm_lo h (hc_u3 h (n + 4) (hc_co f de ne sp (n + 4)) (.inl (0, 6, .inl f6)) (.inl (0, 4, .inl f4))) := by
  have hlo : hm_lo h (hc_u3 h (n + 4) (hc_co f de ne sp (n + 4)) (.inl (0, 6, .inl f6)) (.inl (0, 4, .inl f4))) := fun j hj => (hm_up_o (by omega)).trans ((hm_up_o (by omega)).trans (hm_up_o (by omega)))
  have a1 : ∀ c, ¬ c = nc → hc_ua ad 1 nc (n + 4) 1 c = ad 1 c := fun c hc => if_neg (fun z => hc z.2)
  have ao : ∀ i, ¬ i = 1 → hc_ua ad 1 nc (n + 4) i = ad i := fun i hi => hc_ua_o hi
  have hold : ∀ j, (g j).1 ≠ 0 → ¬ j = n + 4 ∧ ¬ j = n + 4 + 1 ∧ ¬ j = n + 4 + 2 := fun j hj => by
    have := X.rg j hj
    omega
  have hla : hm_la (hc_ua ad 1 nc (n + 4) 3) (hc_ua ad 1 nc (n + 4) 1) = hm_la (ad 3) (ad 1) := by
    funext j
    show (if j < hc_ua ad 1 nc (n + 4) 3 2 then some (hc_ua ad 1 nc (n + 4) 1 j) else none) = (if j < ad 3 2 then some (ad 1 j) else none)
    rw [ao 3 (by decide)]
    by_cases hj : j < ad 3 2
    · rw [if_pos hj, if_pos hj, a1 j (by rcases X.l1 with h1 | h1 <;> omega)]
    · rw [if_neg hj, if_neg hj]
  have hdc : ∀ y : Nat × Nat, ¬ (1 ≤ y.1 ∧ y.1 ≤ 3 ∧ y.2 = nc) → y.1 ≠ 0 → hm_dc (hc_kc k nc f de ne sp f6 f4) (hc_ua ad 1 nc (n + 4)) y = hm_dc k ad y := by
    rintro ⟨a, b⟩ hy hy0
    unfold hm_dc
    dsimp only at hy hy0 ⊢
    by_cases e1 : a = 1
    · have hb : ¬ b = nc := fun z => hy ⟨by omega, by omega, z⟩
      rw [if_pos e1, if_pos e1]
      unfold hm_cf
      rw [a1 b hb, hc_kc_lo (by decide), hc_kc_lo (by decide), hc_kc_lo (by decide), hc_kc_lo (by decide), hc_kc_lo (by decide), hc_kc_lo (by decide),
        show hc_kc0 k nc f de ne sp 10 b = k 10 b from if_neg hb, show hc_kc0 k nc f de ne sp 11 b = k 11 b from if_neg hb, show hc_kc0 k nc f de ne sp 12 b = k 12 b from if_neg hb, show hc_kc0 k nc f de ne sp 13 b = k 13 b from if_neg hb, show hc_kc0 k nc f de ne sp 34 b = k 34 b from if_neg hb, show hc_kc0 k nc f de ne sp 16 b = k 16 b from if_neg hb]
    rw [if_neg e1, if_neg e1]
    by_cases e2 : a = 2
    · rw [if_pos e2, if_pos e2, hc_kc_p, if_neg (fun z => hy ⟨by omega, by omega, z⟩)]
    rw [if_neg e2, if_neg e2]
    by_cases e3 : a = 3
    · rw [if_pos e3, if_pos e3, hc_kc_h, if_neg (fun z => hy ⟨by omega, by omega, z⟩)]
    rw [if_neg e3, if_neg e3]
    by_cases e4 : a = 4
    · rw [if_pos e4, if_pos e4]
      unfold hm_pf
      rw [hc_kc_lo (by decide), hc_kc_lo (by decide), hc_kc_lo (by decide), hc_kc_lo (by decide), hc_kc_lo (by decide)]
      rfl
    rw [if_neg e4, if_neg e4, hla, ao 3 (by decide), ao 4 (by decide), ao 2 (by decide)]
  refine ⟨⟨fun j hj => ?_, fun i j hi hij => ?_, fun c hc => ?_, fun q hq => ?_, fun j hj => ?_, by rw [hc_kc_lo (by decide)]; exact X.nc, X.nc16, by rw [hc_kc_lo (by decide)]; exact X.np, X.np16, ?_, ?_, by rw [ao 0 (by decide)]; exact X.p, by rw [ao 0 (by decide)]; exact X.pi, (hlo 1 (by decide)).trans X.h1, (hlo 2 (by decide)).trans X.h2, (hlo 3 (by decide)).trans X.h3, fun c hc => ?_⟩, hlo⟩
  · by_cases h1 : j = n + 4
    · subst h1
      rw [show hc_gn g (n + 4) nc (n + 4) = (1, nc) from if_pos rfl]
      refine ((hm_up_o (by omega)).trans ((hm_up_o (by omega)).trans hm_up_s)).trans ?_
      unfold hc_co hm_dc hm_cf
      dsimp only
      rw [if_pos rfl, hc_kc_lo (by decide), hc_kc_lo (by decide), hc_kc_lo (by decide), hc_kc_lo (by decide), hc_kc_lo (by decide), hc_kc_lo (by decide),
        show hc_kc0 k nc f de ne sp 10 nc = f from if_pos rfl, show hc_kc0 k nc f de ne sp 11 nc = de from if_pos rfl, show hc_kc0 k nc f de ne sp 12 nc = ne from if_pos rfl, show hc_kc0 k nc f de ne sp 13 nc = sp from if_pos rfl, show hc_kc0 k nc f de ne sp 34 nc = -1 from if_pos rfl, show hc_kc0 k nc f de ne sp 16 nc = nI 0 from if_pos rfl, show hc_ua ad 1 nc (n + 4) 1 nc = n + 4 from if_pos ⟨rfl, rfl⟩]
    by_cases h2 : j = n + 4 + 1
    · subst h2
      rw [show hc_gn g (n + 4) nc (n + 4 + 1) = (2, nc) from (if_neg (by omega)).trans (if_pos rfl)]
      refine ((hm_up_o (by omega)).trans hm_up_s).trans ?_
      show some (Sum.inl (0, 6, Sum.inl f6) : va_E) = some (Sum.inl (0, 6, Sum.inl (hc_kc k nc f de ne sp f6 f4 (101 + 2 * nc))))
      rw [hc_kc_p, if_pos rfl]
    by_cases h3 : j = n + 4 + 2
    · subst h3
      rw [show hc_gn g (n + 4) nc (n + 4 + 2) = (3, nc) from (if_neg (by omega)).trans ((if_neg (by omega)).trans (if_pos rfl))]
      refine hm_up_s.trans ?_
      show some (Sum.inl (0, 4, Sum.inl f4) : va_E) = some (Sum.inl (0, 4, Sum.inl (hc_kc k nc f de ne sp f6 f4 (100 + 2 * nc))))
      rw [hc_kc_h, if_pos rfl]
    obtain ⟨e1, e2⟩ := hc_gn_o h1 h2 h3 hj
    have hj2 : (g j).1 ≠ 0 := by rw [← e1]; exact hj
    rw [e1]
    refine ((hm_up_o h3).trans ((hm_up_o h2).trans (hm_up_o h1))).trans ?_
    rw [X.at j hj2, hdc _ e2 hj2]
  · have key : ∀ i, (hc_gn g (n + 4) nc i).1 ≠ 0 → (i = n + 4 ∧ hc_gn g (n + 4) nc i = (1, nc)) ∨ (i = n + 4 + 1 ∧ hc_gn g (n + 4) nc i = (2, nc)) ∨ (i = n + 4 + 2 ∧ hc_gn g (n + 4) nc i = (3, nc)) ∨ ((g i).1 ≠ 0 ∧ hc_gn g (n + 4) nc i = g i ∧ ¬ (1 ≤ (g i).1 ∧ (g i).1 ≤ 3 ∧ (g i).2 = nc)) := by
      intro i hi
      by_cases h1 : i = n + 4
      · exact Or.inl ⟨h1, if_pos h1⟩
      by_cases h2 : i = n + 4 + 1
      · exact Or.inr (Or.inl ⟨h2, (if_neg h1).trans (if_pos h2)⟩)
      by_cases h3 : i = n + 4 + 2
      · exact Or.inr (Or.inr (Or.inl ⟨h3, (if_neg h1).trans ((if_neg h2).trans (if_pos h3))⟩))
      obtain ⟨e1, e2⟩ := hc_gn_o h1 h2 h3 hi
      exact Or.inr (Or.inr (Or.inr ⟨by rw [← e1]; exact hi, e1, e2⟩))
    have hj : (hc_gn g (n + 4) nc j).1 ≠ 0 := by rw [← hij]; exact hi
    rcases key i hi with ⟨p1, p2⟩ | ⟨p1, p2⟩ | ⟨p1, p2⟩ | ⟨p1, p2, p3⟩ <;> rcases key j hj with ⟨q1, q2⟩ | ⟨q1, q2⟩ | ⟨q1, q2⟩ | ⟨q1, q2, q3⟩ <;> rw [p2, q2] at hij
    · omega
    · exact absurd (congrArg Prod.fst hij) (show ¬ 1 = 2 by decide)
    · exact absurd (congrArg Prod.fst hij) (show ¬ 1 = 3 by decide)
    · exact absurd (by rw [← hij]; exact ⟨Nat.le_refl 1, show 1 ≤ 3 by decide, rfl⟩) q3
    · exact absurd (congrArg Prod.fst hij) (show ¬ 2 = 1 by decide)
    · omega
    · exact absurd (congrArg Prod.fst hij) (show ¬ 2 = 3 by decide)
    · exact absurd (by rw [← hij]; exact ⟨show 1 ≤ 2 by decide, show 2 ≤ 3 by decide, rfl⟩) q3
    · exact absurd (congrArg Prod.fst hij) (show ¬ 3 = 1 by decide)
    · exact absurd (congrArg Prod.fst hij) (show ¬ 3 = 2 by decide)
    · omega
    · exact absurd (by rw [← hij]; exact ⟨show 1 ≤ 3 by decide, Nat.le_refl 3, rfl⟩) q3
    · exact absurd (by rw [hij]; exact ⟨Nat.le_refl 1, show 1 ≤ 3 by decide, rfl⟩) p3
    · exact absurd (by rw [hij]; exact ⟨show 1 ≤ 2 by decide, show 2 ≤ 3 by decide, rfl⟩) p3
    · exact absurd (by rw [hij]; exact ⟨show 1 ≤ 3 by decide, Nat.le_refl 3, rfl⟩) p3
    · exact X.inj i j p1 hij
  · have key := X.cs c hc
    have ob : ∀ x t, g x = (t, c) → ¬ t = 0 → hc_gn g (n + 4) nc x = (t, c) := fun x t hx ht => by
      have ho := hold x (by rw [hx]; exact ht)
      rw [hc_gn_k ho.1 ho.2.1 ho.2.2 (by rw [hx]; exact fun z => by have := z.2.2; dsimp only at this; omega)]
      exact hx
    rw [a1 c (by omega)]
    exact ⟨ob _ 1 key.1 (by decide), ob _ 2 key.2.1 (by decide), ob _ 3 key.2.2 (by decide)⟩
  · have key := X.pl q hq
    have ho := hold (ad 2 q) (by rw [key]; exact (show (4 : Nat) ≠ 0 by decide))
    rw [ao 2 (by decide), hc_gn_k ho.1 ho.2.1 ho.2.2 (by rw [key]; exact fun z => absurd z.2.1 (show ¬ 4 ≤ 3 by decide))]
    exact key
  · by_cases h1 : j = n + 4
    · omega
    by_cases h2 : j = n + 4 + 1
    · omega
    by_cases h3 : j = n + 4 + 2
    · omega
    obtain ⟨e1, e2⟩ := hc_gn_o h1 h2 h3 hj
    have := X.rg j (by rw [← e1]; exact hj)
    omega
  · rw [ao 3 (by decide)]
    rcases X.l1 with h1 | h1
    · exact Or.inl h1
    · have ho := hold (ad 3 0) (by rw [h1.1]; exact (show (5 : Nat) ≠ 0 by decide))
      exact Or.inr ⟨by rw [hc_gn_k ho.1 ho.2.1 ho.2.2 (by rw [h1.1]; exact fun z => absurd z.2.1 (show ¬ 5 ≤ 3 by decide))]; exact h1.1, h1.2⟩
  · rw [ao 4 (by decide)]
    rcases X.l2 with h1 | h1
    · exact Or.inl h1
    · have ho := hold (ad 4 0) (by rw [h1.1]; exact (show (5 : Nat) ≠ 0 by decide))
      exact Or.inr ⟨by rw [hc_gn_k ho.1 ho.2.1 ho.2.2 (by rw [h1.1]; exact fun z => absurd z.2.1 (show ¬ 5 ≤ 3 by decide))]; exact h1.1, h1.2⟩
  · rw [hc_kc_lo (by decide), show hc_kc0 k nc f de ne sp 10 c = k 10 c from if_neg (by omega)]
    exact X.fa c hc
