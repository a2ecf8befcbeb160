/-! settle, casus -/
theorem hw_pout {k m : hm_M} {q : Nat} (h19 : k 19 = m 19) (h20 : k 20 = m 20) : hc_pout k q = hm_pout m q := by
  unfold hc_pout hm_pout
  rw [h19, h20]
  by_cases h : m 20 q < m 19 q
  · rw [if_pos h, if_pos (Int32.le_of_lt h)]
  · rw [if_neg h]
    by_cases h2 : m 20 q ≤ m 19 q
    · rw [if_pos h2]
      exact Int32.le_antisymm (Int32.not_lt.mp h) h2
    · rw [if_neg h2]
theorem t_settle {d e L : Nat} {xs : Nat → Int32} {hp : hm_H} {Q : Option Value → hm_H → Prop} (S : hw_S L xs hp) {x : Int32} (K : hw_K L xs 172 (e + 2) [.ref 61, .int x, .retAddr 0, .retAddr 0] Q) : hm_T (d + 4) 114 0 [.ref 4, .int x, .retAddr 0, .retAddr 0, .retAddr 0] [] hp Q := by
  obtain ⟨k, ad, w, g, nc, np, nb, m, h, n, s, rfl, H, X, R, N⟩ := S
  have hnp := X.np16
  have hnc := X.nc16
  by_cases c0 : 0 ≤ x.toInt ∧ x.toInt < nc
  · obtain ⟨c, hc, rfl, _, _⟩ := hm_nIof2 c0.1 c0.2
    have e16 := R.E.1 16 rfl
    have hv := R.U.2.1
    have cond : (¬ k 16 c = 0 ∨ (k (100 + 2 * c) 2 = -1 ∧ k (100 + 2 * c) 3 = -1)) ↔ (¬ m 16 c = 0 ∨ (m 15 (4 * c + 2) < 0 ∧ m 15 (4 * c + 3) < 0)) := by
      rw [e16, R.U.1 c hc 2 (by decide), R.U.1 c hc 3 (by decide), hm_hv_neg (hv _ (by omega)), hm_hv_neg (hv _ (by omega))]
    have hNot : (¬ m 16 c = 0 ∨ (m 15 (4 * c + 2) < 0 ∧ m 15 (4 * c + 3) < 0)) → op_settle m np c = (-1003, m) := fun z => by
      unfold op_settle
      by_cases h1 : m 16 c = 0
      · rw [if_pos h1]
        rcases z with z | z
        · exact absurd h1 z
        · rw [if_pos z]
      · rw [if_neg h1]
    rcases hw_po R.Y hnc hnp hc with ⟨p1, p2⟩ | ⟨q, p1, p2, p3, p4⟩
    · refine s_114n X hc (fun cn => ?_) (x := -1) (fun z => absurd z.1 (by decide)) p1 (fun cn h2 X2 hl => ?_)
      · refine hw_go K H (s_172 R.Z.1 X.nc16 R.Z.2.2.1 X.np16 hc ?_)
        rw [hNot (cond.mp cn)]
        exact ⟨rfl, hw_fin H X R N⟩
      · refine hw_go K (H.lo hl) (s_172 R.Z.1 X.nc16 R.Z.2.2.1 X.np16 hc ?_)
        have cn2 : m 16 c = 0 ∧ ¬ (m 15 (4 * c + 2) < 0 ∧ m 15 (4 * c + 3) < 0) := by
          by_cases h1 : m 16 c = 0
          · exact ⟨h1, fun z => cn (cond.mpr (Or.inr z))⟩
          · exact absurd (cond.mpr (Or.inl h1)) cn
        have e : op_settle m np c = (nI 0, hm_uM m 16 (upd (m 16) c (nI 1))) := by
          unfold op_settle
          rw [if_pos cn2.1, if_neg cn2.2, p2, if_pos (by decide)]
        rw [e]
        dsimp only
        refine ⟨rfl, hw_fin (nb := nb) (H.lo hl) X2 ?_ N⟩
        obtain ⟨E, U, P, Lw, C, Z, B, A, Y⟩ := R
        refine ⟨E.u (fun _ => by rw [e16]) (fun z => absurd z (by decide)), U.c (fun j hj => hm_uMo _ _ (by omega)) rfl rfl rfl rfl U.2.2.2.1, P.c (fun j hj => hm_uMo _ _ (by omega)) rfl, Lw.c X.p (fun j h1 h2 => hm_uMo _ _ (by omega)) rfl, C.c rfl rfl rfl, ?_, B.c rfl, A.c rfl rfl rfl, ?_⟩
        · obtain ⟨z1, z2, z3, z4, z5, z6, z7⟩ := Z
          refine ⟨z1, z2, z3, z4, z5, z6, fun c2 hc2 => ?_⟩
          exact (if_neg (by omega)).trans (z7 c2 hc2)
        · obtain ⟨y1, y2, y3⟩ := Y
          refine ⟨fun p hp => ?_, y2, y3⟩
          rcases y1 p hp with h5 | ⟨c2, h5, h6, h7, h8⟩
          · exact Or.inl h5
          · refine Or.inr ⟨c2, h5, h6, h7, fun z => ?_⟩
            by_cases hcc : c2 = c
            · have z2 : upd (m 16) c (nI 1) c2 = 0 := z
              rw [show upd (m 16) c (nI 1) c2 = nI 1 from if_pos hcc] at z2
              exact absurd z2 (by decide)
            · have z2 : upd (m 16) c (nI 1) c2 = 0 := z
              rw [show upd (m 16) c (nI 1) c2 = m 16 c2 from if_neg hcc] at z2
              exact h8 z2
    · refine s_114y X hc (fun cn => ?_) p1 p2 (fun cn h2 X2 hl => ?_)
      · refine hw_go K H (s_172 R.Z.1 X.nc16 R.Z.2.2.1 X.np16 hc ?_)
        rw [hNot (cond.mp cn)]
        exact ⟨rfl, hw_fin H X R N⟩
      · refine hw_go K (H.lo hl) (s_172 R.Z.1 X.nc16 R.Z.2.2.1 X.np16 hc ?_)
        have cn2 : m 16 c = 0 ∧ ¬ (m 15 (4 * c + 2) < 0 ∧ m 15 (4 * c + 3) < 0) := by
          by_cases h1 : m 16 c = 0
          · exact ⟨h1, fun z => cn (cond.mpr (Or.inr z))⟩
          · exact absurd (cond.mpr (Or.inl h1)) cn
        have e : op_settle m np c = (hm_pout m q, hm_stl (hm_uM m 16 (upd (m 16) c (nI 1))) q) := by
          unfold op_settle
          rw [if_pos cn2.1, if_neg cn2.2, p4, if_neg (nI_pos (by omega)), nI_clamp (by omega)]
        rw [e]
        dsimp only
        have epo := hw_pout (q := q) (R.E.1 19 rfl) (R.E.1 20 rfl)
        have hm22 : m 22 q = 0 := by
          rcases R.Y.1 q p1 with ⟨_, h5, _⟩ | ⟨c2, h5, h6, h7, h8⟩
          · exact h5
          · have ec : c2 = c := hm_nIinj (h6.symm.trans p3) (by omega) (by omega)
            rw [ec] at h8
            exact h8 cn2.1
        refine ⟨by rw [epo], hw_fin (nb := nb) (H.lo hl) X2 ?_ N⟩
        obtain ⟨E, U, P, Lw, C, Z, B, A, Y⟩ := R
        obtain ⟨m2, hm2⟩ : ∃ m2, m2 = hm_stl (hm_uM m 16 (upd (m 16) c (nI 1))) q := ⟨_, rfl⟩
        obtain ⟨k2, hk2⟩ : ∃ k2, k2 = hm_uM (hc_po (hm_uM k 16 (upd (k 16) c (nI 1))) q) 32 (fun _ => k 32 0 + hc_pout k q) := ⟨_, rfl⟩
        have oth : ∀ j, ¬ j = 16 → ¬ j = 20 → ¬ j = 22 → m2 j = m j := fun j a1 a2 a3 => by
          rw [hm2]
          unfold hm_stl
          rw [hm_uMo _ _ a3, hm_uMo _ _ a2, hm_uMo _ _ a1]
        have othk : ∀ j, ¬ j = 16 → ¬ j = 20 → ¬ j = 22 → ¬ j = 33 → ¬ j = 32 → k2 j = k j := fun j a1 a2 a3 a4 a5 => by
          rw [hk2]
          unfold hc_po
          rw [hm_uMo _ _ a5, hm_uMo _ _ a4, hm_uMo _ _ a3, hm_uMo _ _ a2, hm_uMo _ _ a1]
        have m16 : m2 16 = upd (m 16) c (nI 1) := by rw [hm2]; rfl
        have m20 : m2 20 = upd (m 20) q (m 20 q - hm_pout m q) := by rw [hm2]; rfl
        have m22 : m2 22 = upd (m 22) q (hm_pout m q) := by
          have e9 : m2 22 = upd (m 22) q (m 22 q + hm_pout m q) := by rw [hm2]; rfl
          rw [e9, hm22, Int32.zero_add]
        have k16 : k2 16 = upd (k 16) c (nI 1) := by rw [hk2]; rfl
        have k20 : k2 20 = upd (k 20) q (k 20 q - hc_pout k q) := by rw [hk2]; rfl
        have k22 : k2 22 = upd (k 22) q (hc_pout k q) := by rw [hk2]; rfl
        have k33 : k2 33 = upd (k 33) q (nI 1) := by rw [hk2]; rfl
        have k32 : k2 32 0 = k 32 0 + hc_pout k q := by rw [hk2]; rfl
        rw [← hm2, ← hk2]
        refine ⟨⟨fun j hj => ?_, fun j hj => ?_⟩, U.c (fun j hj => othk j (by omega) (by omega) (by omega) (by omega) (by omega)) (oth 15 (by decide) (by decide) (by decide)) (oth 3 (by decide) (by decide) (by decide)) (oth 12 (by decide) (by decide) (by decide)) (oth 13 (by decide) (by decide) (by decide)) (by rw [oth 0 (by decide) (by decide) (by decide)]; exact U.2.2.2.1), P.c (fun j hj => othk j (by omega) (by omega) (by omega) (by omega) (by omega)) (oth 14 (by decide) (by decide) (by decide)), Lw.c X.p (fun j h1 h2 => othk j (by omega) (by omega) (by omega) (by omega) (by omega)) (oth 4 (by decide) (by decide) (by decide)), C.c (oth 3 (by decide) (by decide) (by decide)) (oth 12 (by decide) (by decide) (by decide)) (oth 13 (by decide) (by decide) (by decide)), ?_, B.c (oth 4 (by decide) (by decide) (by decide)), A.c (oth 10 (by decide) (by decide) (by decide)) (oth 11 (by decide) (by decide) (by decide)) (oth 14 (by decide) (by decide) (by decide)), ?_⟩
        · by_cases j16 : j = 16
          · rw [j16, k16, m16, e16]
          by_cases j20 : j = 20
          · rw [j20, k20, m20, epo, E.1 20 rfl]
          by_cases j22 : j = 22
          · rw [j22, k22, m22, epo, E.1 22 rfl]
          · have hj2 := of_decide_eq_true hj
            rw [othk j j16 j20 j22 (by omega) (by omega), oth j j16 j20 j22]
            exact E.1 j hj
        · have hj2 := of_decide_eq_true hj
          rw [othk j (by omega) (by omega) (by omega) (by omega) (by omega), oth j (by omega) (by omega) (by omega)]
          exact E.2 j hj
        · obtain ⟨z1, z2, z3, z4, z5, z6, z7⟩ := Z
          refine ⟨?_, z2, ?_, z4, ?_, ?_, fun c2 hc2 => ?_⟩
          · rw [oth 9 (by decide) (by decide) (by decide)]; exact z1
          · rw [oth 18 (by decide) (by decide) (by decide)]; exact z3
          · rw [oth 2 (by decide) (by decide) (by decide)]; exact z5
          · rw [oth 7 (by decide) (by decide) (by decide), oth 6 (by decide) (by decide) (by decide)]; exact z6
          · rw [m16]
            exact (if_neg (by omega)).trans (z7 c2 hc2)
        · obtain ⟨y1, y2, y3⟩ := Y
          have k34 : k2 34 = k 34 := othk 34 (by decide) (by decide) (by decide) (by decide) (by decide)
          have m21 : m2 21 = m 21 := oth 21 (by decide) (by decide) (by decide)
          refine ⟨fun p hp => ?_, ?_, ?_⟩
          · rw [k34, m21, m22, k33, m16]
            rcases y1 p hp with ⟨h5, h6, h7⟩ | ⟨c2, h5, h6, h7, h8⟩
            · have hpq : ¬ p = q := fun z => by
                rw [z, p3] at h5
                exact hm_nIm c (by omega) h5
              exact Or.inl ⟨h5, (if_neg hpq).trans h6, (if_neg hpq).trans h7⟩
            · refine Or.inr ⟨c2, h5, h6, h7, fun z => ?_⟩
              by_cases hcc : c2 = c
              · rw [show upd (m 16) c (nI 1) c2 = nI 1 from if_pos hcc] at z
                exact absurd z (by decide)
              · rw [show upd (m 16) c (nI 1) c2 = m 16 c2 from if_neg hcc] at z
                have hpq : ¬ p = q := fun z2 => by
                  rw [z2, p3] at h6
                  exact hcc (hm_nIinj h6 (by omega) (by omega)).symm
                exact (if_neg hpq).trans (h8 z)
          · rw [k34, m21]
            exact y2
          · rw [k32, m22, y3, epo, hr_sg1 (f := m 22) (f2 := upd (m 22) q (hm_pout m q)) np p1 (fun x _ hx => if_neg hx), show upd (m 22) q (hm_pout m q) q = hm_pout m q from if_pos rfl, hm22]
            grind
  · exact s_114_bad X c0 (hw_go K H (s_172_bad R.Z.1 X.nc16 c0 ⟨rfl, hw_fin H X R N⟩))
