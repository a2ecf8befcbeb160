/-! THE CALLS, one by one: both sides answer alike and stay related -/
theorem t_place {d e L : Nat} {xs : Nat → Int32} {hp : hm_H} {Q : Option Value → hm_H → Prop} (S : hw_S L xs hp) (K : hw_K L xs 142 e [.ref 61] Q) : hm_T d 60 0 [.ref 4] [] hp Q := by
  obtain ⟨k, ad, w, g, nc, np, nb, m, h, n, s, rfl, H, X, R, N⟩ := S
  refine s_60 (hw_go K H (s_142 ⟨?_, hw_fin H X R N⟩))
  rw [R.E.2 8 rfl]
theorem hw_cl {x : Int32} {N : Nat} (h : 0 ≤ x.toInt ∧ x.toInt ≤ N) : x.toNatClampNeg ≤ N := by
  obtain ⟨j, h1, _, _, h2⟩ := hm_nIof2 (N := N + 1) h.1 (by have := h.2; omega)
  omega
theorem hw_says {k m : hm_M} {ad : hm_AD} (Lw : hx_L k ad m) (f t x : Int32) : oc_says k ad f t x = op_says m f t x := by
  unfold oc_says op_says
  by_cases c1 : 0 ≤ f.toInt ∧ f.toInt ≤ 3
  · rw [if_pos c1, if_pos c1]
    by_cases c2 : 0 ≤ t.toInt ∧ t.toInt ≤ 3
    · rw [if_pos c2, if_pos c2]
      by_cases c3 : 0 ≤ x.toInt ∧ x.toInt ≤ 4
      · rw [if_pos c3, if_pos c3]
        have e1 := hw_cl (N := 3) c1
        have e2 := hw_cl (N := 3) c2
        have e3 := hw_cl (N := 4) c3
        exact Lw _ (by omega) _ (by omega) _ (by omega)
      · rw [if_neg c3, if_neg c3]
    · rw [if_neg c2, if_neg c2]
  · rw [if_neg c1, if_neg c1]
theorem t_says {d e L : Nat} {xs : Nat → Int32} {hp : hm_H} {Q : Option Value → hm_H → Prop} (S : hw_S L xs hp) {f t x : Int32} (K : hw_K L xs 143 (e + 2) [.ref 61, .int f, .int t, .int x] Q) : hm_T (d + 2) 61 0 [.ref 4, .int f, .int t, .int x] [] hp Q := by
  obtain ⟨k, ad, w, g, nc, np, nb, m, h, n, s, rfl, H, X, R, N⟩ := S
  refine s_61 X (hw_go K H (s_143 ⟨?_, hw_fin H X R N⟩))
  rw [hw_says R.L]
theorem t_rate {d e L : Nat} {xs : Nat → Int32} {hp : hm_H} {Q : Option Value → hm_H → Prop} (S : hw_S L xs hp) {v : Int32} (K : hw_K L xs 168 (e + 1) [.ref 61, .int v, .retAddr 0] Q) : hm_T (d + 1) 109 0 [.ref 4, .int v, .retAddr 0] [] hp Q := by
  obtain ⟨k, ad, w, g, nc, np, nb, m, h, n, s, rfl, H, X, R, N⟩ := S
  refine s_109 ?_
  by_cases c : 0 ≤ v.toInt ∧ v.toInt ≤ 100
  · have e1 : oc_rate k v = (k 23 0, hm_uM k 23 (fun _ => v)) := if_pos c
    have e2 : op_rate m v = (m 23 0, hm_uM m 23 (fun _ => v)) := if_pos c
    rw [e1]
    refine hw_go K H (s_168 ?_)
    rw [e2]
    refine ⟨by rw [R.E.2 23 rfl], hw_fin H (X.st (fun j hj => hm_uMo _ _ (by omega)) ⟨rfl, rfl, rfl, rfl, rfl, rfl, rfl, rfl, rfl, rfl, rfl, rfl, rfl⟩) (R.c X.p (R.E.u (fun z => absurd z (by decide)) (fun _ => rfl)) (fun j hj => hm_uMo _ _ (by omega)) (fun j hj => hm_uMo _ _ (by omega))) N⟩
  · have e1 : oc_rate k v = (-1002, k) := if_neg c
    have e2 : op_rate m v = (-1002, m) := if_neg c
    rw [e1]
    refine hw_go K H (s_168 ?_)
    rw [e2]
    exact ⟨rfl, hw_fin H X R N⟩
theorem hw_taken {k m : hm_M} {nc : Nat} (hR : hr_rows k m nc) (hour x : Int32) : oc_taken k hour x = op_taken m nc hour x := by
  unfold oc_taken op_taken
  by_cases c1 : 0 ≤ hour.toInt ∧ hour.toInt ≤ 399
  · rw [if_pos c1, if_pos c1]
    obtain ⟨hh, h4, rfl, _, ec⟩ := hm_nIof2 (N := 400) c1.1 (by have := c1.2; omega)
    obtain ⟨r0, r1, r2, r3, r4, r5⟩ := hR hh h4
    rw [ec]
    have et : hm_cnt (fun c => decide (m 15 (4 * c + 0) = nI hh)) nc + hm_cnt (fun c => decide (m 15 (4 * c + 1) = nI hh)) nc + hm_cnt (fun c => decide (m 15 (4 * c + 2) = nI hh)) nc + hm_cnt (fun c => decide (m 15 (4 * c + 3) = nI hh)) nc = hm_cnt (fun j => decide (m 15 j = nI hh)) (4 * nc) := hr_tkn nc
    rw [et]
    by_cases c2 : 0 ≤ x.toInt ∧ x.toInt ≤ 5
    · rw [if_pos c2]
      obtain ⟨j, h6, rfl, ei, ec2⟩ := hm_nIof2 (N := 6) c2.1 (by have := c2.2; omega)
      rw [ec2, ei]
      match j, h6 with
      | 0, _ => exact r0
      | 1, _ => exact r1
      | 2, _ => exact r2
      | 3, _ => exact r3
      | 4, _ => exact r4
      | 5, _ => exact r5
      | j + 6, h => omega
    · rw [if_neg c2, if_neg (by omega), if_neg (by omega), if_neg (by omega), if_neg (by omega), if_neg (by omega), if_neg (by omega)]
  · rw [if_neg c1, if_neg c1]
theorem t_taken {d e L : Nat} {xs : Nat → Int32} {hp : hm_H} {Q : Option Value → hm_H → Prop} (S : hw_S L xs hp) {hour x : Int32} (K : hw_K L xs 162 (e + 3) [.ref 61, .int hour, .int x, .retAddr 0, .retAddr 0] Q) : hm_T (d + 2) 102 0 [.ref 4, .int hour, .int x] [] hp Q := by
  obtain ⟨k, ad, w, g, nc, np, nb, m, h, n, s, rfl, H, X, R, N⟩ := S
  refine s_102 (hw_go K H (s_162 R.Z.1 X.nc16 ⟨?_, hw_fin H X R N⟩))
  rw [hw_taken R.U.2.2.2.2.1]
theorem t_count {d e L : Nat} {xs : Nat → Int32} {hp : hm_H} {Q : Option Value → hm_H → Prop} (S : hw_S L xs hp) {x : Int32} (K : hw_K L xs 163 (e + 1) [.ref 61, .int x, .retAddr 0, .retAddr 0, .retAddr 0] Q) : hm_T (d + 4) 103 0 [.ref 4, .int x] [] hp Q := by
  obtain ⟨k, ad, w, g, nc, np, nb, m, h, n, s, rfl, H, X, R, N⟩ := S
  refine s_103 X (hw_go K H (s_163 R.Z.1 X.nc16 R.Z.2.2.1 X.np16 ⟨?_, hw_fin H X R N⟩))
  have e : oc_count k np x = op_count m nc np x := by
    unfold oc_count op_count
    rw [X.nc, R.Z.1, R.E.2 2 rfl, R.U.2.2.2.2.2.2, R.E.2 17 rfl, R.E.2 7 rfl, X.np, R.Z.2.2.1, R.E.1 20 rfl, R.Y.2.2, R.E.1 0 rfl]
  rw [e]
theorem t_planned {d e L : Nat} {xs : Nat → Int32} {hp : hm_H} {Q : Option Value → hm_H → Prop} (S : hw_S L xs hp) {pl x : Int32} (K : hw_K L xs 173 (e + 2) [.ref 61, .int pl, .int x] Q) : hm_T (d + 4) 116 0 [.ref 4, .int pl, .int x, .retAddr 0] [] hp Q := by
  obtain ⟨k, ad, w, g, nc, np, nb, m, h, n, s, rfl, H, X, R, N⟩ := S
  have hnp := X.np16
  have ez : (m 18 0).toNatClampNeg = np := by rw [R.Z.2.2.1, nI_clamp (by omega)]
  by_cases c : 0 ≤ pl.toInt ∧ pl.toInt < np
  · obtain ⟨q, hq, rfl, e1, e2⟩ := hm_nIof2 c.1 c.2
    refine s_116 X hq (hw_go K H (s_173 R.Z.2.2.1 X.np16 ⟨?_, hw_fin H X R N⟩))
    unfold op_planned oc_planned
    rw [ez, if_pos c, e2, R.E.1 19 rfl, R.E.1 20 rfl, R.E.1 21 rfl, R.E.1 22 rfl]
  · refine s_116_bad X c (hw_go K H (s_173 R.Z.2.2.1 X.np16 ⟨?_, hw_fin H X R N⟩))
    unfold op_planned
    rw [ez, if_neg c]
theorem t_pay {d e L : Nat} {xs : Nat → Int32} {hp : hm_H} {Q : Option Value → hm_H → Prop} (S : hw_S L xs hp) {pl v : Int32} (K : hw_K L xs 166 (e + 2) [.ref 61, .int pl, .int v] Q) : hm_T (d + 4) 107 0 [.ref 4, .int pl, .int v, .retAddr 0] [] hp Q := by
  obtain ⟨k, ad, w, g, nc, np, nb, m, h, n, s, rfl, H, X, R, N⟩ := S
  have hnp := X.np16
  have ez : (m 18 0).toNatClampNeg = np := by rw [R.Z.2.2.1, nI_clamp (by omega)]
  have e20 := R.E.1 20 rfl
  by_cases c : 0 ≤ pl.toInt ∧ pl.toInt < np
  · obtain ⟨q, hq, rfl, e1, e2⟩ := hm_nIof2 c.1 c.2
    by_cases c2 : 1 ≤ v.toInt ∧ v.toInt ≤ 1000000
    · refine s_107 X hq c2 (fun c3 => ?_) (fun c3 h2 X2 hl => ?_)
      · refine hw_go K H (s_166 R.Z.2.2.1 X.np16 ?_)
        rw [e20] at c3
        have e : op_pay m (nI q) v = (-1003, m) := by
          unfold op_pay
          rw [ez, if_pos c, if_pos c2, e2, if_neg c3]
        rw [e]
        exact ⟨rfl, hw_fin H X R N⟩
      · refine hw_go K (H.lo hl) (s_166 R.Z.2.2.1 X.np16 ?_)
        have e : op_pay m (nI q) v = (m 20 q + v, hm_uM m 20 (upd (m 20) q (m 20 q + v))) := by
          rw [e20] at c3
          unfold op_pay
          rw [ez, if_pos c, if_pos c2, e2, if_pos c3]
        rw [e]
        refine ⟨by rw [e20], hw_fin (H.lo hl) X2 (R.c X.p (R.E.u (fun _ => by rw [e20]) (fun z => absurd z (by decide))) (fun j hj => hm_uMo _ _ (by omega)) (fun j hj => hm_uMo _ _ (by omega))) N⟩
    · refine s_107_out X hq c2 (hw_go K H (s_166 R.Z.2.2.1 X.np16 ?_))
      have e : op_pay m (nI q) v = (-1002, m) := by
        unfold op_pay
        rw [ez, if_pos c, if_neg c2]
      rw [e]
      exact ⟨rfl, hw_fin H X R N⟩
  · refine s_107_bad X c (hw_go K H (s_166 R.Z.2.2.1 X.np16 ?_))
    have e : op_pay m pl v = (-1001, m) := by
      unfold op_pay
      rw [ez, if_neg c]
    rw [e]
    exact ⟨rfl, hw_fin H X R N⟩
theorem t_bearer {d e L : Nat} {xs : Nat → Int32} {hp : hm_H} {Q : Option Value → hm_H → Prop} (S : hw_S L xs hp) {v : Int32} (K : hw_K L xs 127 (e + 1) [.ref 61, .int v] Q) : hm_T (d + 1) 22 0 [.ref 4, .int v] [] hp Q := by
  obtain ⟨k, ad, w, g, nc, np, nb, m, h, n, s, rfl, H, X, R, N⟩ := S
  have hm2 : m 2 0 = nI nb := R.Z.2.2.2.2.1
  have hk2 : k 2 0 = nI nb := (R.E.2 2 rfl).trans hm2
  have hb12 := R.C.1
  have e3 := R.E.1 3 rfl
  by_cases c : 140 ≤ v.toInt ∧ v.toInt ≤ 210
  · refine s_22 c hk2 hb12 (hw_go K H (s_127 hm2 hb12 ?_))
    by_cases c2 : nb = 12
    · have e : op_bearer m v = (-1004, m) := by
        unfold op_bearer
        rw [if_pos c, if_pos (by rw [hm2, c2])]
      rw [e, if_pos c2, if_pos c2]
      exact ⟨rfl, hw_fin H X R N⟩
    · have e : op_bearer m v = (nI nb, hm_uM (hm_uM m 3 (upd (m 3) nb v)) 2 (fun _ => nI (nb + 1))) := by
        unfold op_bearer
        rw [if_pos c, if_neg (by rw [hm2]; exact fun z => c2 (hm_nIinj z (by omega) (by omega))), hm2, nI_clamp (by omega), nI_add]
      rw [e, if_neg c2, if_neg c2]
      dsimp only
      obtain ⟨vh, hv1, hv2, hv3⟩ : ∃ vh, v = nI vh ∧ 140 ≤ vh ∧ vh ≤ 210 := by
        obtain ⟨vh, h1, h2, h3⟩ := hm_nIof (x := v) (N := 211) (by omega) (by omega)
        exact ⟨vh, h2, by omega, by omega⟩
      have oth : ∀ j, ¬ j = 3 → ¬ j = 2 → hm_uM (hm_uM m 3 (upd (m 3) nb v)) 2 (fun _ => nI (nb + 1)) j = m j := fun j h1 h2 => by rw [hm_uMo _ _ h2, hm_uMo _ _ h1]
      have othk : ∀ j, ¬ j = 3 → ¬ j = 2 → hm_uM (hm_uM k 3 (upd (k 3) nb v)) 2 (fun _ => nI (nb + 1)) j = k j := fun j h1 h2 => by rw [hm_uMo _ _ h2, hm_uMo _ _ h1]
      have m3 : hm_uM (hm_uM m 3 (upd (m 3) nb v)) 2 (fun _ => nI (nb + 1)) 3 = upd (m 3) nb v := rfl
      refine ⟨rfl, hw_fin (nb := nb + 1) H (X.st (fun j hj => othk j (by omega) (by omega)) ⟨rfl, rfl, rfl, rfl, rfl, rfl, rfl, rfl, rfl, rfl, rfl, rfl, rfl⟩) ?_ N⟩
      obtain ⟨E, U, P, Lw, C, Z, B, A, Y⟩ := R
      refine ⟨(E.u (fun _ => by rw [e3]) (fun z => absurd z (by decide))).u (fun z => absurd z (by decide)) (fun _ => rfl), ?_, P.c (fun j hj => othk j (by omega) (by omega)) (oth 14 (by decide) (by decide)), Lw.c X.p (fun j h1 h2 => othk j (by omega) (by omega)) (oth 4 (by decide) (by decide)), ?_, ?_, B.c (oth 4 (by decide) (by decide)), A.c (oth 10 (by decide) (by decide)) (oth 11 (by decide) (by decide)) (oth 14 (by decide) (by decide)), Y.c (fun j hj => othk j (by omega) (by omega)) (fun j hj => oth j (by omega) (by omega))⟩
      · obtain ⟨hH, hv, hd, hc0, hR, hS, h31⟩ := U
        refine ⟨fun c hc t ht => by rw [othk _ (by omega) (by omega)]; exact hH c hc t ht, hv, hd, hc0, hR, fun hh h4 => ?_, h31⟩
        have hw : hc_wl (hm_uM (hm_uM k 3 (upd (k 3) nb v)) 2 (fun _ => nI (nb + 1))) (nI hh) nc = hc_wl k (nI hh) nc := hr_same nc (fun x _ => by unfold hc_car; rw [othk _ (by omega) (by omega)])
        rw [hw]
        refine hr_sat_up (F := hr_F m nc nb) _ _ (fun c _ x hx => hr_F_up (m := m) (m2 := hm_uM (hm_uM m 3 (upd (m 3) nb v)) 2 (fun _ => nI (nb + 1))) (fun i hi => ?_) rfl rfl hx) (hS hh h4)
        rw [m3]
        exact (if_neg (by omega)).symm
      · refine ⟨by omega, fun i hi => ?_, C.2.2.1, C.2.2.2⟩
        rw [m3]
        by_cases hi2 : i = nb
        · exact ⟨vh, (if_pos hi2).trans hv1, hv2, hv3⟩
        · rw [show upd (m 3) nb v i = m 3 i from if_neg hi2]
          exact C.2.1 i (by omega)
      · exact ⟨Z.1, Z.2.1, Z.2.2.1, Z.2.2.2.1, rfl, Z.2.2.2.2.2⟩
  · refine s_22_out c (hw_go K H (s_127 hm2 hb12 ?_))
    have e : op_bearer m v = (-1002, m) := if_neg c
    rw [e]
    exact ⟨rfl, hw_fin H X R N⟩
