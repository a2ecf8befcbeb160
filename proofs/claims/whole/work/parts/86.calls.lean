/-- behind a call -/
def hm_kont (d M pc : Nat) (ls rest : List Value) (Q : Option Value → hm_H → Prop) (v : Option Value) (hp2 : hm_H) : Prop := match v with
  | some x => hm_T (d + 1) M (pc + 3) ls (x :: rest) hp2 Q
  | none => hm_T (d + 1) M (pc + 3) ls rest hp2 Q
theorem hm_kont_ok {d M pc cc : Nat} {ls rest l0 : List Value} {hp : hm_H} {Q : Option Value → hm_H → Prop} (h : hm_T d cc 0 l0 [] hp (hm_kont d M pc ls rest Q)) : hm_T d cc 0 l0 [] hp (fun v hp2 => hm_T (d + 1) M (pc + 3) ls (v.toList ++ rest) hp2 Q) := h.mono fun v hp2 h2 => by cases v <;> exact h2
theorem r_iincn {d M pc k : Nat} {ls ls2 st : List Value} {hp : hm_H} {Q : Option Value → hm_H → Prop} {n : Int} {x v : Int32} (hI : hm_code M pc = some (.iinc k n)) (hk : ls[k]? = some (.int x)) (hv : x + Int32.ofInt n = v) (hl : hm_st1 ls k (.int v) = some ls2) (h : hm_T d M (pc + 3) ls2 st hp Q) : hm_T d M pc ls st hp Q := r_iinc hI hk (by rw [hv]; exact hl) h
theorem nI_inc (c : Nat) : nI c + Int32.ofInt 1 = nI (c + 1) := by
  rw [show Int32.ofInt 1 = 1 by decide +kernel]
  exact (nI_succ c).symm
theorem hm_s8_none {cid ix cc nst w pc : Nat} {ls st : List Value} {hp : hm_H} (hf : hm_ctab.lookup (cid, ix) = some (cc, nst, w)) (hne : cc ≠ 1) : hm_s8 cid (.invokespecial ix) pc ls st hp = none := by
  unfold hm_s8
  split
  next ix2 a r he =>
    cases he
    rw [hf]
    exact if_neg (fun z => hne z.1.1)
  next => rfl
section HCALL
variable {d M pc : Nat} {ls rest : List Value} {hp : hm_H} {Q : Option Value → hm_H → Prop} {q rq : hm_Q} {ix cc nst w : Nat}
theorem r_calls0 (hq : hm_mtab[M]? = some q) (hI : hm_code M pc = some (.invokestatic ix)) (hf : hm_ctab.lookup (q.2.2.2.2.1, ix) = some (cc, nst, w)) (hm : hm_mtab[cc]? = some rq) (hok : cc < 174 ∧ cc ≠ 1 ∧ cc ≠ 72) (hk : rq.2.2.2.2.2.2 = 0) (hna : rq.2.2.2.2.2.1 = 0) (hml : (hm_al []).length ≤ rq.2.2.1) (hrl : hm_cs rest ≤ 8) (h : hm_T d cc 0 (hm_al [] ++ List.replicate (rq.2.2.1 - (hm_al []).length) (.retAddr 0)) [] hp (hm_kont d M pc ls rest Q)) : hm_T (d + 1) M pc ls (rest) hp Q := by
  refine hm_T.call (as := []) (rest := rest) (cc := cc) hq hI (fun _ => rfl) (by unfold hm_step hm_s1 hm_s2 hm_s3 hm_s4 hm_s5 hm_s6 hm_s7; unfold hm_s8; rfl) ?_ ?_ (hm_kont_ok h)
  · unfold hm_cal hm_tgt
    dsimp only
    rw [hf]
    dsimp only [Option.map_some]
    rw [hm]
    dsimp only
    rw [hna, hk]
    exact if_pos ⟨hok, ⟨rfl, by simp⟩, hrl, rfl⟩
  · unfold hm_ent
    rw [hm]
    exact if_pos hml
theorem r_calls1 {v0 : Value} (hq : hm_mtab[M]? = some q) (hI : hm_code M pc = some (.invokestatic ix)) (hf : hm_ctab.lookup (q.2.2.2.2.1, ix) = some (cc, nst, w)) (hm : hm_mtab[cc]? = some rq) (hok : cc < 174 ∧ cc ≠ 1 ∧ cc ≠ 72) (hk : rq.2.2.2.2.2.2 = 0) (hna : rq.2.2.2.2.2.1 = 1) (hml : (hm_al [v0]).length ≤ rq.2.2.1) (hrl : hm_cs rest ≤ 8) (h : hm_T d cc 0 (hm_al [v0] ++ List.replicate (rq.2.2.1 - (hm_al [v0]).length) (.retAddr 0)) [] hp (hm_kont d M pc ls rest Q)) : hm_T (d + 1) M pc ls (v0 :: rest) hp Q := by
  refine hm_T.call (as := [v0]) (rest := rest) (cc := cc) hq hI (fun _ => rfl) (by unfold hm_step hm_s1 hm_s2 hm_s3 hm_s4 hm_s5 hm_s6 hm_s7; unfold hm_s8; rfl) ?_ ?_ (hm_kont_ok h)
  · unfold hm_cal hm_tgt
    dsimp only
    rw [hf]
    dsimp only [Option.map_some]
    rw [hm]
    dsimp only
    rw [hna, hk]
    exact if_pos ⟨hok, ⟨rfl, by simp⟩, hrl, rfl⟩
  · unfold hm_ent
    rw [hm]
    exact if_pos hml
theorem r_calls2 {v0 v1 : Value} (hq : hm_mtab[M]? = some q) (hI : hm_code M pc = some (.invokestatic ix)) (hf : hm_ctab.lookup (q.2.2.2.2.1, ix) = some (cc, nst, w)) (hm : hm_mtab[cc]? = some rq) (hok : cc < 174 ∧ cc ≠ 1 ∧ cc ≠ 72) (hk : rq.2.2.2.2.2.2 = 0) (hna : rq.2.2.2.2.2.1 = 2) (hml : (hm_al [v0, v1]).length ≤ rq.2.2.1) (hrl : hm_cs rest ≤ 8) (h : hm_T d cc 0 (hm_al [v0, v1] ++ List.replicate (rq.2.2.1 - (hm_al [v0, v1]).length) (.retAddr 0)) [] hp (hm_kont d M pc ls rest Q)) : hm_T (d + 1) M pc ls (v1 :: v0 :: rest) hp Q := by
  refine hm_T.call (as := [v0, v1]) (rest := rest) (cc := cc) hq hI (fun _ => rfl) (by unfold hm_step hm_s1 hm_s2 hm_s3 hm_s4 hm_s5 hm_s6 hm_s7; unfold hm_s8; rfl) ?_ ?_ (hm_kont_ok h)
  · unfold hm_cal hm_tgt
    dsimp only
    rw [hf]
    dsimp only [Option.map_some]
    rw [hm]
    dsimp only
    rw [hna, hk]
    exact if_pos ⟨hok, ⟨rfl, by simp⟩, hrl, rfl⟩
  · unfold hm_ent
    rw [hm]
    exact if_pos hml
theorem r_calls3 {v0 v1 v2 : Value} (hq : hm_mtab[M]? = some q) (hI : hm_code M pc = some (.invokestatic ix)) (hf : hm_ctab.lookup (q.2.2.2.2.1, ix) = some (cc, nst, w)) (hm : hm_mtab[cc]? = some rq) (hok : cc < 174 ∧ cc ≠ 1 ∧ cc ≠ 72) (hk : rq.2.2.2.2.2.2 = 0) (hna : rq.2.2.2.2.2.1 = 3) (hml : (hm_al [v0, v1, v2]).length ≤ rq.2.2.1) (hrl : hm_cs rest ≤ 8) (h : hm_T d cc 0 (hm_al [v0, v1, v2] ++ List.replicate (rq.2.2.1 - (hm_al [v0, v1, v2]).length) (.retAddr 0)) [] hp (hm_kont d M pc ls rest Q)) : hm_T (d + 1) M pc ls (v2 :: v1 :: v0 :: rest) hp Q := by
  refine hm_T.call (as := [v0, v1, v2]) (rest := rest) (cc := cc) hq hI (fun _ => rfl) (by unfold hm_step hm_s1 hm_s2 hm_s3 hm_s4 hm_s5 hm_s6 hm_s7; unfold hm_s8; rfl) ?_ ?_ (hm_kont_ok h)
  · unfold hm_cal hm_tgt
    dsimp only
    rw [hf]
    dsimp only [Option.map_some]
    rw [hm]
    dsimp only
    rw [hna, hk]
    exact if_pos ⟨hok, ⟨rfl, by simp⟩, hrl, rfl⟩
  · unfold hm_ent
    rw [hm]
    exact if_pos hml
theorem r_calls4 {v0 v1 v2 v3 : Value} (hq : hm_mtab[M]? = some q) (hI : hm_code M pc = some (.invokestatic ix)) (hf : hm_ctab.lookup (q.2.2.2.2.1, ix) = some (cc, nst, w)) (hm : hm_mtab[cc]? = some rq) (hok : cc < 174 ∧ cc ≠ 1 ∧ cc ≠ 72) (hk : rq.2.2.2.2.2.2 = 0) (hna : rq.2.2.2.2.2.1 = 4) (hml : (hm_al [v0, v1, v2, v3]).length ≤ rq.2.2.1) (hrl : hm_cs rest ≤ 8) (h : hm_T d cc 0 (hm_al [v0, v1, v2, v3] ++ List.replicate (rq.2.2.1 - (hm_al [v0, v1, v2, v3]).length) (.retAddr 0)) [] hp (hm_kont d M pc ls rest Q)) : hm_T (d + 1) M pc ls (v3 :: v2 :: v1 :: v0 :: rest) hp Q := by
  refine hm_T.call (as := [v0, v1, v2, v3]) (rest := rest) (cc := cc) hq hI (fun _ => rfl) (by unfold hm_step hm_s1 hm_s2 hm_s3 hm_s4 hm_s5 hm_s6 hm_s7; unfold hm_s8; rfl) ?_ ?_ (hm_kont_ok h)
  · unfold hm_cal hm_tgt
    dsimp only
    rw [hf]
    dsimp only [Option.map_some]
    rw [hm]
    dsimp only
    rw [hna, hk]
    exact if_pos ⟨hok, ⟨rfl, by simp⟩, hrl, rfl⟩
  · unfold hm_ent
    rw [hm]
    exact if_pos hml
theorem r_calls5 {v0 v1 v2 v3 v4 : Value} (hq : hm_mtab[M]? = some q) (hI : hm_code M pc = some (.invokestatic ix)) (hf : hm_ctab.lookup (q.2.2.2.2.1, ix) = some (cc, nst, w)) (hm : hm_mtab[cc]? = some rq) (hok : cc < 174 ∧ cc ≠ 1 ∧ cc ≠ 72) (hk : rq.2.2.2.2.2.2 = 0) (hna : rq.2.2.2.2.2.1 = 5) (hml : (hm_al [v0, v1, v2, v3, v4]).length ≤ rq.2.2.1) (hrl : hm_cs rest ≤ 8) (h : hm_T d cc 0 (hm_al [v0, v1, v2, v3, v4] ++ List.replicate (rq.2.2.1 - (hm_al [v0, v1, v2, v3, v4]).length) (.retAddr 0)) [] hp (hm_kont d M pc ls rest Q)) : hm_T (d + 1) M pc ls (v4 :: v3 :: v2 :: v1 :: v0 :: rest) hp Q := by
  refine hm_T.call (as := [v0, v1, v2, v3, v4]) (rest := rest) (cc := cc) hq hI (fun _ => rfl) (by unfold hm_step hm_s1 hm_s2 hm_s3 hm_s4 hm_s5 hm_s6 hm_s7; unfold hm_s8; rfl) ?_ ?_ (hm_kont_ok h)
  · unfold hm_cal hm_tgt
    dsimp only
    rw [hf]
    dsimp only [Option.map_some]
    rw [hm]
    dsimp only
    rw [hna, hk]
    exact if_pos ⟨hok, ⟨rfl, by simp⟩, hrl, rfl⟩
  · unfold hm_ent
    rw [hm]
    exact if_pos hml
theorem r_calls6 {v0 v1 v2 v3 v4 v5 : Value} (hq : hm_mtab[M]? = some q) (hI : hm_code M pc = some (.invokestatic ix)) (hf : hm_ctab.lookup (q.2.2.2.2.1, ix) = some (cc, nst, w)) (hm : hm_mtab[cc]? = some rq) (hok : cc < 174 ∧ cc ≠ 1 ∧ cc ≠ 72) (hk : rq.2.2.2.2.2.2 = 0) (hna : rq.2.2.2.2.2.1 = 6) (hml : (hm_al [v0, v1, v2, v3, v4, v5]).length ≤ rq.2.2.1) (hrl : hm_cs rest ≤ 8) (h : hm_T d cc 0 (hm_al [v0, v1, v2, v3, v4, v5] ++ List.replicate (rq.2.2.1 - (hm_al [v0, v1, v2, v3, v4, v5]).length) (.retAddr 0)) [] hp (hm_kont d M pc ls rest Q)) : hm_T (d + 1) M pc ls (v5 :: v4 :: v3 :: v2 :: v1 :: v0 :: rest) hp Q := by
  refine hm_T.call (as := [v0, v1, v2, v3, v4, v5]) (rest := rest) (cc := cc) hq hI (fun _ => rfl) (by unfold hm_step hm_s1 hm_s2 hm_s3 hm_s4 hm_s5 hm_s6 hm_s7; unfold hm_s8; rfl) ?_ ?_ (hm_kont_ok h)
  · unfold hm_cal hm_tgt
    dsimp only
    rw [hf]
    dsimp only [Option.map_some]
    rw [hm]
    dsimp only
    rw [hna, hk]
    exact if_pos ⟨hok, ⟨rfl, by simp⟩, hrl, rfl⟩
  · unfold hm_ent
    rw [hm]
    exact if_pos hml
theorem r_callv1 {a : Nat} (hq : hm_mtab[M]? = some q) (hI : hm_code M pc = some (.invokevirtual ix)) (hf : hm_ctab.lookup (q.2.2.2.2.1, ix) = some (cc, nst, w)) (hm : hm_mtab[cc]? = some rq) (hok : cc < 174 ∧ cc ≠ 1 ∧ cc ≠ 72) (hk : rq.2.2.2.2.2.2 = 1) (hna : rq.2.2.2.2.2.1 = 1) (hml : (hm_al [.ref a]).length ≤ rq.2.2.1) (hrl : hm_cs rest ≤ 8) {cj : Nat} {fs : List Value} (ha : hp.1 a = some (.inr (cj, fs))) (hcj : cj = rq.2.2.2.2.1) (h : hm_T d cc 0 (hm_al [.ref a] ++ List.replicate (rq.2.2.1 - (hm_al [.ref a]).length) (.retAddr 0)) [] hp (hm_kont d M pc ls rest Q)) : hm_T (d + 1) M pc ls (.ref a :: rest) hp Q := by
  refine hm_T.call (as := [.ref a]) (rest := rest) (cc := cc) hq hI (fun _ => rfl) (by unfold hm_step hm_s1 hm_s2 hm_s3 hm_s4 hm_s5 hm_s6 hm_s7; unfold hm_s8; rfl) ?_ ?_ (hm_kont_ok h)
  · unfold hm_cal hm_tgt
    dsimp only
    rw [hf]
    dsimp only [Option.map_some]
    rw [hm]
    dsimp only
    rw [hna, hk]
    exact if_pos ⟨hok, ⟨rfl, by simp⟩, hrl, by show (match hp.1 a with | some (.inr (cj, _)) => decide (cj = rq.2.2.2.2.1) | _ => false) = true; rw [ha]; exact decide_eq_true hcj⟩
  · unfold hm_ent
    rw [hm]
    exact if_pos hml
theorem r_callv2 {v1 : Value} {a : Nat} (hq : hm_mtab[M]? = some q) (hI : hm_code M pc = some (.invokevirtual ix)) (hf : hm_ctab.lookup (q.2.2.2.2.1, ix) = some (cc, nst, w)) (hm : hm_mtab[cc]? = some rq) (hok : cc < 174 ∧ cc ≠ 1 ∧ cc ≠ 72) (hk : rq.2.2.2.2.2.2 = 1) (hna : rq.2.2.2.2.2.1 = 2) (hml : (hm_al [.ref a, v1]).length ≤ rq.2.2.1) (hrl : hm_cs rest ≤ 8) {cj : Nat} {fs : List Value} (ha : hp.1 a = some (.inr (cj, fs))) (hcj : cj = rq.2.2.2.2.1) (h : hm_T d cc 0 (hm_al [.ref a, v1] ++ List.replicate (rq.2.2.1 - (hm_al [.ref a, v1]).length) (.retAddr 0)) [] hp (hm_kont d M pc ls rest Q)) : hm_T (d + 1) M pc ls (v1 :: .ref a :: rest) hp Q := by
  refine hm_T.call (as := [.ref a, v1]) (rest := rest) (cc := cc) hq hI (fun _ => rfl) (by unfold hm_step hm_s1 hm_s2 hm_s3 hm_s4 hm_s5 hm_s6 hm_s7; unfold hm_s8; rfl) ?_ ?_ (hm_kont_ok h)
  · unfold hm_cal hm_tgt
    dsimp only
    rw [hf]
    dsimp only [Option.map_some]
    rw [hm]
    dsimp only
    rw [hna, hk]
    exact if_pos ⟨hok, ⟨rfl, by simp⟩, hrl, by show (match hp.1 a with | some (.inr (cj, _)) => decide (cj = rq.2.2.2.2.1) | _ => false) = true; rw [ha]; exact decide_eq_true hcj⟩
  · unfold hm_ent
    rw [hm]
    exact if_pos hml
theorem r_callv3 {v1 v2 : Value} {a : Nat} (hq : hm_mtab[M]? = some q) (hI : hm_code M pc = some (.invokevirtual ix)) (hf : hm_ctab.lookup (q.2.2.2.2.1, ix) = some (cc, nst, w)) (hm : hm_mtab[cc]? = some rq) (hok : cc < 174 ∧ cc ≠ 1 ∧ cc ≠ 72) (hk : rq.2.2.2.2.2.2 = 1) (hna : rq.2.2.2.2.2.1 = 3) (hml : (hm_al [.ref a, v1, v2]).length ≤ rq.2.2.1) (hrl : hm_cs rest ≤ 8) {cj : Nat} {fs : List Value} (ha : hp.1 a = some (.inr (cj, fs))) (hcj : cj = rq.2.2.2.2.1) (h : hm_T d cc 0 (hm_al [.ref a, v1, v2] ++ List.replicate (rq.2.2.1 - (hm_al [.ref a, v1, v2]).length) (.retAddr 0)) [] hp (hm_kont d M pc ls rest Q)) : hm_T (d + 1) M pc ls (v2 :: v1 :: .ref a :: rest) hp Q := by
  refine hm_T.call (as := [.ref a, v1, v2]) (rest := rest) (cc := cc) hq hI (fun _ => rfl) (by unfold hm_step hm_s1 hm_s2 hm_s3 hm_s4 hm_s5 hm_s6 hm_s7; unfold hm_s8; rfl) ?_ ?_ (hm_kont_ok h)
  · unfold hm_cal hm_tgt
    dsimp only
    rw [hf]
    dsimp only [Option.map_some]
    rw [hm]
    dsimp only
    rw [hna, hk]
    exact if_pos ⟨hok, ⟨rfl, by simp⟩, hrl, by show (match hp.1 a with | some (.inr (cj, _)) => decide (cj = rq.2.2.2.2.1) | _ => false) = true; rw [ha]; exact decide_eq_true hcj⟩
  · unfold hm_ent
    rw [hm]
    exact if_pos hml
theorem r_callv4 {v1 v2 v3 : Value} {a : Nat} (hq : hm_mtab[M]? = some q) (hI : hm_code M pc = some (.invokevirtual ix)) (hf : hm_ctab.lookup (q.2.2.2.2.1, ix) = some (cc, nst, w)) (hm : hm_mtab[cc]? = some rq) (hok : cc < 174 ∧ cc ≠ 1 ∧ cc ≠ 72) (hk : rq.2.2.2.2.2.2 = 1) (hna : rq.2.2.2.2.2.1 = 4) (hml : (hm_al [.ref a, v1, v2, v3]).length ≤ rq.2.2.1) (hrl : hm_cs rest ≤ 8) {cj : Nat} {fs : List Value} (ha : hp.1 a = some (.inr (cj, fs))) (hcj : cj = rq.2.2.2.2.1) (h : hm_T d cc 0 (hm_al [.ref a, v1, v2, v3] ++ List.replicate (rq.2.2.1 - (hm_al [.ref a, v1, v2, v3]).length) (.retAddr 0)) [] hp (hm_kont d M pc ls rest Q)) : hm_T (d + 1) M pc ls (v3 :: v2 :: v1 :: .ref a :: rest) hp Q := by
  refine hm_T.call (as := [.ref a, v1, v2, v3]) (rest := rest) (cc := cc) hq hI (fun _ => rfl) (by unfold hm_step hm_s1 hm_s2 hm_s3 hm_s4 hm_s5 hm_s6 hm_s7; unfold hm_s8; rfl) ?_ ?_ (hm_kont_ok h)
  · unfold hm_cal hm_tgt
    dsimp only
    rw [hf]
    dsimp only [Option.map_some]
    rw [hm]
    dsimp only
    rw [hna, hk]
    exact if_pos ⟨hok, ⟨rfl, by simp⟩, hrl, by show (match hp.1 a with | some (.inr (cj, _)) => decide (cj = rq.2.2.2.2.1) | _ => false) = true; rw [ha]; exact decide_eq_true hcj⟩
  · unfold hm_ent
    rw [hm]
    exact if_pos hml
theorem r_callv5 {v1 v2 v3 v4 : Value} {a : Nat} (hq : hm_mtab[M]? = some q) (hI : hm_code M pc = some (.invokevirtual ix)) (hf : hm_ctab.lookup (q.2.2.2.2.1, ix) = some (cc, nst, w)) (hm : hm_mtab[cc]? = some rq) (hok : cc < 174 ∧ cc ≠ 1 ∧ cc ≠ 72) (hk : rq.2.2.2.2.2.2 = 1) (hna : rq.2.2.2.2.2.1 = 5) (hml : (hm_al [.ref a, v1, v2, v3, v4]).length ≤ rq.2.2.1) (hrl : hm_cs rest ≤ 8) {cj : Nat} {fs : List Value} (ha : hp.1 a = some (.inr (cj, fs))) (hcj : cj = rq.2.2.2.2.1) (h : hm_T d cc 0 (hm_al [.ref a, v1, v2, v3, v4] ++ List.replicate (rq.2.2.1 - (hm_al [.ref a, v1, v2, v3, v4]).length) (.retAddr 0)) [] hp (hm_kont d M pc ls rest Q)) : hm_T (d + 1) M pc ls (v4 :: v3 :: v2 :: v1 :: .ref a :: rest) hp Q := by
  refine hm_T.call (as := [.ref a, v1, v2, v3, v4]) (rest := rest) (cc := cc) hq hI (fun _ => rfl) (by unfold hm_step hm_s1 hm_s2 hm_s3 hm_s4 hm_s5 hm_s6 hm_s7; unfold hm_s8; rfl) ?_ ?_ (hm_kont_ok h)
  · unfold hm_cal hm_tgt
    dsimp only
    rw [hf]
    dsimp only [Option.map_some]
    rw [hm]
    dsimp only
    rw [hna, hk]
    exact if_pos ⟨hok, ⟨rfl, by simp⟩, hrl, by show (match hp.1 a with | some (.inr (cj, _)) => decide (cj = rq.2.2.2.2.1) | _ => false) = true; rw [ha]; exact decide_eq_true hcj⟩
  · unfold hm_ent
    rw [hm]
    exact if_pos hml
theorem r_callv6 {v1 v2 v3 v4 v5 : Value} {a : Nat} (hq : hm_mtab[M]? = some q) (hI : hm_code M pc = some (.invokevirtual ix)) (hf : hm_ctab.lookup (q.2.2.2.2.1, ix) = some (cc, nst, w)) (hm : hm_mtab[cc]? = some rq) (hok : cc < 174 ∧ cc ≠ 1 ∧ cc ≠ 72) (hk : rq.2.2.2.2.2.2 = 1) (hna : rq.2.2.2.2.2.1 = 6) (hml : (hm_al [.ref a, v1, v2, v3, v4, v5]).length ≤ rq.2.2.1) (hrl : hm_cs rest ≤ 8) {cj : Nat} {fs : List Value} (ha : hp.1 a = some (.inr (cj, fs))) (hcj : cj = rq.2.2.2.2.1) (h : hm_T d cc 0 (hm_al [.ref a, v1, v2, v3, v4, v5] ++ List.replicate (rq.2.2.1 - (hm_al [.ref a, v1, v2, v3, v4, v5]).length) (.retAddr 0)) [] hp (hm_kont d M pc ls rest Q)) : hm_T (d + 1) M pc ls (v5 :: v4 :: v3 :: v2 :: v1 :: .ref a :: rest) hp Q := by
  refine hm_T.call (as := [.ref a, v1, v2, v3, v4, v5]) (rest := rest) (cc := cc) hq hI (fun _ => rfl) (by unfold hm_step hm_s1 hm_s2 hm_s3 hm_s4 hm_s5 hm_s6 hm_s7; unfold hm_s8; rfl) ?_ ?_ (hm_kont_ok h)
  · unfold hm_cal hm_tgt
    dsimp only
    rw [hf]
    dsimp only [Option.map_some]
    rw [hm]
    dsimp only
    rw [hna, hk]
    exact if_pos ⟨hok, ⟨rfl, by simp⟩, hrl, by show (match hp.1 a with | some (.inr (cj, _)) => decide (cj = rq.2.2.2.2.1) | _ => false) = true; rw [ha]; exact decide_eq_true hcj⟩
  · unfold hm_ent
    rw [hm]
    exact if_pos hml
theorem r_calli1 {a : Nat} (hq : hm_mtab[M]? = some q) (hI : hm_code M pc = some (.invokespecial ix)) (hf : hm_ctab.lookup (q.2.2.2.2.1, ix) = some (cc, nst, w)) (hm : hm_mtab[cc]? = some rq) (hok : cc < 174 ∧ cc ≠ 1 ∧ cc ≠ 72) (hk : rq.2.2.2.2.2.2 = 2) (hna : rq.2.2.2.2.2.1 = 1) (hml : (hm_al [.ref a]).length ≤ rq.2.2.1) (hrl : hm_cs rest ≤ 8) (h : hm_T d cc 0 (hm_al [.ref a] ++ List.replicate (rq.2.2.1 - (hm_al [.ref a]).length) (.retAddr 0)) [] hp (hm_kont d M pc ls rest Q)) : hm_T (d + 1) M pc ls (.ref a :: rest) hp Q := by
  refine hm_T.call (as := [.ref a]) (rest := rest) (cc := cc) hq hI (fun _ => rfl) (by unfold hm_step hm_s1 hm_s2 hm_s3 hm_s4 hm_s5 hm_s6 hm_s7; rw [hm_s8_none hf hok.2.1]; rfl) ?_ ?_ (hm_kont_ok h)
  · unfold hm_cal hm_tgt
    dsimp only
    rw [hf]
    dsimp only [Option.map_some]
    rw [hm]
    dsimp only
    rw [hna, hk]
    exact if_pos ⟨hok, ⟨rfl, by simp⟩, hrl, rfl⟩
  · unfold hm_ent
    rw [hm]
    exact if_pos hml
theorem r_calli2 {v1 : Value} {a : Nat} (hq : hm_mtab[M]? = some q) (hI : hm_code M pc = some (.invokespecial ix)) (hf : hm_ctab.lookup (q.2.2.2.2.1, ix) = some (cc, nst, w)) (hm : hm_mtab[cc]? = some rq) (hok : cc < 174 ∧ cc ≠ 1 ∧ cc ≠ 72) (hk : rq.2.2.2.2.2.2 = 2) (hna : rq.2.2.2.2.2.1 = 2) (hml : (hm_al [.ref a, v1]).length ≤ rq.2.2.1) (hrl : hm_cs rest ≤ 8) (h : hm_T d cc 0 (hm_al [.ref a, v1] ++ List.replicate (rq.2.2.1 - (hm_al [.ref a, v1]).length) (.retAddr 0)) [] hp (hm_kont d M pc ls rest Q)) : hm_T (d + 1) M pc ls (v1 :: .ref a :: rest) hp Q := by
  refine hm_T.call (as := [.ref a, v1]) (rest := rest) (cc := cc) hq hI (fun _ => rfl) (by unfold hm_step hm_s1 hm_s2 hm_s3 hm_s4 hm_s5 hm_s6 hm_s7; rw [hm_s8_none hf hok.2.1]; rfl) ?_ ?_ (hm_kont_ok h)
  · unfold hm_cal hm_tgt
    dsimp only
    rw [hf]
    dsimp only [Option.map_some]
    rw [hm]
    dsimp only
    rw [hna, hk]
    exact if_pos ⟨hok, ⟨rfl, by simp⟩, hrl, rfl⟩
  · unfold hm_ent
    rw [hm]
    exact if_pos hml
theorem r_calli3 {v1 v2 : Value} {a : Nat} (hq : hm_mtab[M]? = some q) (hI : hm_code M pc = some (.invokespecial ix)) (hf : hm_ctab.lookup (q.2.2.2.2.1, ix) = some (cc, nst, w)) (hm : hm_mtab[cc]? = some rq) (hok : cc < 174 ∧ cc ≠ 1 ∧ cc ≠ 72) (hk : rq.2.2.2.2.2.2 = 2) (hna : rq.2.2.2.2.2.1 = 3) (hml : (hm_al [.ref a, v1, v2]).length ≤ rq.2.2.1) (hrl : hm_cs rest ≤ 8) (h : hm_T d cc 0 (hm_al [.ref a, v1, v2] ++ List.replicate (rq.2.2.1 - (hm_al [.ref a, v1, v2]).length) (.retAddr 0)) [] hp (hm_kont d M pc ls rest Q)) : hm_T (d + 1) M pc ls (v2 :: v1 :: .ref a :: rest) hp Q := by
  refine hm_T.call (as := [.ref a, v1, v2]) (rest := rest) (cc := cc) hq hI (fun _ => rfl) (by unfold hm_step hm_s1 hm_s2 hm_s3 hm_s4 hm_s5 hm_s6 hm_s7; rw [hm_s8_none hf hok.2.1]; rfl) ?_ ?_ (hm_kont_ok h)
  · unfold hm_cal hm_tgt
    dsimp only
    rw [hf]
    dsimp only [Option.map_some]
    rw [hm]
    dsimp only
    rw [hna, hk]
    exact if_pos ⟨hok, ⟨rfl, by simp⟩, hrl, rfl⟩
  · unfold hm_ent
    rw [hm]
    exact if_pos hml
theorem r_calli4 {v1 v2 v3 : Value} {a : Nat} (hq : hm_mtab[M]? = some q) (hI : hm_code M pc = some (.invokespecial ix)) (hf : hm_ctab.lookup (q.2.2.2.2.1, ix) = some (cc, nst, w)) (hm : hm_mtab[cc]? = some rq) (hok : cc < 174 ∧ cc ≠ 1 ∧ cc ≠ 72) (hk : rq.2.2.2.2.2.2 = 2) (hna : rq.2.2.2.2.2.1 = 4) (hml : (hm_al [.ref a, v1, v2, v3]).length ≤ rq.2.2.1) (hrl : hm_cs rest ≤ 8) (h : hm_T d cc 0 (hm_al [.ref a, v1, v2, v3] ++ List.replicate (rq.2.2.1 - (hm_al [.ref a, v1, v2, v3]).length) (.retAddr 0)) [] hp (hm_kont d M pc ls rest Q)) : hm_T (d + 1) M pc ls (v3 :: v2 :: v1 :: .ref a :: rest) hp Q := by
  refine hm_T.call (as := [.ref a, v1, v2, v3]) (rest := rest) (cc := cc) hq hI (fun _ => rfl) (by unfold hm_step hm_s1 hm_s2 hm_s3 hm_s4 hm_s5 hm_s6 hm_s7; rw [hm_s8_none hf hok.2.1]; rfl) ?_ ?_ (hm_kont_ok h)
  · unfold hm_cal hm_tgt
    dsimp only
    rw [hf]
    dsimp only [Option.map_some]
    rw [hm]
    dsimp only
    rw [hna, hk]
    exact if_pos ⟨hok, ⟨rfl, by simp⟩, hrl, rfl⟩
  · unfold hm_ent
    rw [hm]
    exact if_pos hml
theorem r_calli5 {v1 v2 v3 v4 : Value} {a : Nat} (hq : hm_mtab[M]? = some q) (hI : hm_code M pc = some (.invokespecial ix)) (hf : hm_ctab.lookup (q.2.2.2.2.1, ix) = some (cc, nst, w)) (hm : hm_mtab[cc]? = some rq) (hok : cc < 174 ∧ cc ≠ 1 ∧ cc ≠ 72) (hk : rq.2.2.2.2.2.2 = 2) (hna : rq.2.2.2.2.2.1 = 5) (hml : (hm_al [.ref a, v1, v2, v3, v4]).length ≤ rq.2.2.1) (hrl : hm_cs rest ≤ 8) (h : hm_T d cc 0 (hm_al [.ref a, v1, v2, v3, v4] ++ List.replicate (rq.2.2.1 - (hm_al [.ref a, v1, v2, v3, v4]).length) (.retAddr 0)) [] hp (hm_kont d M pc ls rest Q)) : hm_T (d + 1) M pc ls (v4 :: v3 :: v2 :: v1 :: .ref a :: rest) hp Q := by
  refine hm_T.call (as := [.ref a, v1, v2, v3, v4]) (rest := rest) (cc := cc) hq hI (fun _ => rfl) (by unfold hm_step hm_s1 hm_s2 hm_s3 hm_s4 hm_s5 hm_s6 hm_s7; rw [hm_s8_none hf hok.2.1]; rfl) ?_ ?_ (hm_kont_ok h)
  · unfold hm_cal hm_tgt
    dsimp only
    rw [hf]
    dsimp only [Option.map_some]
    rw [hm]
    dsimp only
    rw [hna, hk]
    exact if_pos ⟨hok, ⟨rfl, by simp⟩, hrl, rfl⟩
  · unfold hm_ent
    rw [hm]
    exact if_pos hml
theorem r_calli6 {v1 v2 v3 v4 v5 : Value} {a : Nat} (hq : hm_mtab[M]? = some q) (hI : hm_code M pc = some (.invokespecial ix)) (hf : hm_ctab.lookup (q.2.2.2.2.1, ix) = some (cc, nst, w)) (hm : hm_mtab[cc]? = some rq) (hok : cc < 174 ∧ cc ≠ 1 ∧ cc ≠ 72) (hk : rq.2.2.2.2.2.2 = 2) (hna : rq.2.2.2.2.2.1 = 6) (hml : (hm_al [.ref a, v1, v2, v3, v4, v5]).length ≤ rq.2.2.1) (hrl : hm_cs rest ≤ 8) (h : hm_T d cc 0 (hm_al [.ref a, v1, v2, v3, v4, v5] ++ List.replicate (rq.2.2.1 - (hm_al [.ref a, v1, v2, v3, v4, v5]).length) (.retAddr 0)) [] hp (hm_kont d M pc ls rest Q)) : hm_T (d + 1) M pc ls (v5 :: v4 :: v3 :: v2 :: v1 :: .ref a :: rest) hp Q := by
  refine hm_T.call (as := [.ref a, v1, v2, v3, v4, v5]) (rest := rest) (cc := cc) hq hI (fun _ => rfl) (by unfold hm_step hm_s1 hm_s2 hm_s3 hm_s4 hm_s5 hm_s6 hm_s7; rw [hm_s8_none hf hok.2.1]; rfl) ?_ ?_ (hm_kont_ok h)
  · unfold hm_cal hm_tgt
    dsimp only
    rw [hf]
    dsimp only [Option.map_some]
    rw [hm]
    dsimp only
    rw [hna, hk]
    exact if_pos ⟨hok, ⟨rfl, by simp⟩, hrl, rfl⟩
  · unfold hm_ent
    rw [hm]
    exact if_pos hml
end HCALL
