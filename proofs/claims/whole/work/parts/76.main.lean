/-- THE ABSTRACT MACHINE IS SOUND -/
theorem hm_sound (l : Launch) (G : hm_E) (hmir : ∃ mi : Nat, hm_mir l G mi) : ∀ f : Nat, hm_At l G f
  | 0 => by
    intro d M pc ls st hp hp2 r q h
    cases h
  | f + 1 => by
    have ih := hm_sound l G hmir f
    intro d M pc ls st hp hp2 r q h hq p e R s m args below meth c Q n0 s0 C0 hn0 hs0 hc hs hfr hlo hex
    obtain ⟨q2, i, hq2, hi, hcase⟩ := hm_run_cases h
    cases hq.symm.trans hq2
    obtain ⟨n, hd, hn⟩ := hm_code_ok hq hi
    rcases hcase with ⟨hr, rfl⟩ | ⟨σ, h1, h2⟩ | ⟨d2, cc, as, rest, l0, r1, hp1, rfl, h1, h2, h3, h4⟩ | ⟨d2, a, rest, hp1, rfl, h4d, h1, h2⟩
    · exact hex pc ls st i n hd hn hr
    · have hle := hm_step_le h1
      have hle2 := hm_run_le h2
      have k := ih d M σ.1 σ.2.1 σ.2.2.1 σ.2.2.2 hp2 r q h2 hq p e R s m args below meth c Q n0 s0 C0 (Nat.le_trans hn0 hle.1) (Nat.le_trans hs0 hle.2) hc hs hfr hlo hex
      exact hm_stepK C0 hd hn hn0 hs0 ⟨by have := hle2.1; omega, by have := hle2.2; omega⟩ (by omega) (by omega) h1 k
    · have hle := hm_run_le h3
      have hle2 := hm_run_le h4
      have k := ih (d2 + 1) M (pc + 3) ls (r1.toList ++ rest) hp1 hp2 r q h4 hq p e R s m args below meth c Q n0 s0 C0 (Nat.le_trans hn0 hle.1) (Nat.le_trans hs0 hle.2) hc hs hfr hlo hex
      exact hm_callK ih C0 hd hn h1 h2 h3 hn0 hs0 (by have := hle2.1; omega) (by have := hle2.2; omega) hfr hlo k
    · have hle := hm_cpy_le h1
      have hle2 := hm_run_le h2
      have k := ih (d2 + 1) M (pc + 3) ls (.ref a :: rest) hp1 hp2 r q h2 hq p e R s m args below meth c Q n0 s0 C0 (Nat.le_trans hn0 hle.1) (Nat.le_trans hs0 hle.2) hc hs hfr hlo hex
      exact hm_cpyK hmir C0 hd hn h1 hn0 hs0 (by have := hle2.1; omega) (by have := hle2.2; omega) (by omega) (by omega) k
