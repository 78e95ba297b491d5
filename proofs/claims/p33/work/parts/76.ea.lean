/-! the evaluator, by the fuel of a walk -/
def fb_ev : List (Nat × Nat) := [(8, 3), (8, 5), (19, 999), (32, 999), (33, 999), (34, 999), (35, 999), (44, 999), (45, 999), (1, 0), (18, 999), (2, 11), (2, 14), (1, 15), (54, 11), (4, 2), (7, 9), (30, 13), (30, 34), (30, 2), (30, 23), (30, 25), (46, 999), (47, 999), (30, 35), (30, 36), (7, 0), (24, 999), (37, 999), (30, 4), (30, 5), (30, 6), (30, 8), (30, 9), (30, 10), (30, 11), (30, 14), (30, 15), (30, 16), (30, 17), (30, 18), (30, 19), (30, 20), (30, 21), (39, 999), (40, 999), (41, 999), (30, 30), (30, 42), (30, 43), (30, 44), (1, 1), (1, 3), (1, 10), (1, 13), (8, 0), (30, 49), (2, 15), (8, 1)]
def EvAll (ro : ab_R) (G : Nat → Nat) (F : ab_W → Prop) (fz : List (Nat × Nat)) (n : Nat) : Prop := EvK ro G F fz n 0 177 6 (some (1, (-9223372036854775808), 9223372036854775807)) ∧ EvK ro G F fz n 1 176 7 (some (1, (-9223372036854775808), 9223372036854775807)) ∧ EvK ro G F fz n 2 175 8 (some (1, (-9223372036854775808), 9223372036854775807)) ∧ EvK ro G F fz n 5 182 9 (some (0, 0, 1)) ∧ EvK ro G F fz n 6 181 10 (some (0, 0, 1)) ∧ EvK ro G F fz n 7 180 11 (some (0, 0, 1)) ∧ EvK ro G F fz n 9 179 12 (some (0, 0, 1))
theorem ev_all {ro : ab_R} {G : Nat → Nat} {fz : List (Nat × Nat)} {F : ab_W → Prop} (hF : ∀ w w', smt G w w' → F w → F w') (hfz : ∀ q ∈ fz, q ∈ fb_ev) : ∀ n, EvAll ro G F fz n := by
  intro n
  induction n using Nat.strongRecOn with
  | ind n ih =>
    refine ⟨?_, ?_, ?_, ?_, ?_, ?_, ?_⟩
    · intro b pk f e io g q D he hg hgr hD
      obtain ⟨d, rfl⟩ : ∃ d, D = d + 6 := ⟨D - 6, by omega⟩
      exact hv_partOf hF d he hg hgr hD (fun m hm => (ih m hm).2.2.1) (fun q hq => (by decide +kernel : ∀ q ∈ fb_ev, q ∈ fb_hv_partOf) q (hfz q hq))
    · intro b pk f e io g q D he hg hgr hD
      obtain ⟨d, rfl⟩ : ∃ d, D = d + 6 := ⟨D - 6, by omega⟩
      exact hv_termOf hF d he hg hgr hD (fun m hm => (ih m hm).1) (fun q hq => (by decide +kernel : ∀ q ∈ fb_ev, q ∈ fb_hv_termOf) q (hfz q hq))
    · intro b pk f e io g q D he hg hgr hD
      obtain ⟨d, rfl⟩ : ∃ d, D = d + 6 := ⟨D - 6, by omega⟩
      exact hv_sumOf hF d he hg hgr hD (fun m hm => (ih m hm).2.1) (fun q hq => (by decide +kernel : ∀ q ∈ fb_ev, q ∈ fb_hv_sumOf) q (hfz q hq))
    · intro b pk f e io g q D he hg hgr hD
      obtain ⟨d, rfl⟩ : ∃ d, D = d + 6 := ⟨D - 6, by omega⟩
      exact hv_positiveOf hF d he hg hgr hD (fun m hm => (ih m hm).2.2.2.2.2.2) (fun m hm => (ih m hm).2.2.1) (fun q hq => (by decide +kernel : ∀ q ∈ fb_ev, q ∈ fb_hv_positiveOf) q (hfz q hq))
    · intro b pk f e io g q D he hg hgr hD
      obtain ⟨d, rfl⟩ : ∃ d, D = d + 6 := ⟨D - 6, by omega⟩
      exact hv_plainOf hF d he hg hgr hD (fun m hm => (ih m hm).2.2.2.1) (fun q hq => (by decide +kernel : ∀ q ∈ fb_ev, q ∈ fb_hv_plainOf) q (hfz q hq))
    · intro b pk f e io g q D he hg hgr hD
      obtain ⟨d, rfl⟩ : ∃ d, D = d + 6 := ⟨D - 6, by omega⟩
      exact hv_bothOf hF d he hg hgr hD (fun m hm => (ih m hm).2.2.2.2.1) (fun q hq => (by decide +kernel : ∀ q ∈ fb_ev, q ∈ fb_hv_bothOf) q (hfz q hq))
    · intro b pk f e io g q D he hg hgr hD
      obtain ⟨d, rfl⟩ : ∃ d, D = d + 6 := ⟨D - 6, by omega⟩
      exact hv_testOf hF d he hg hgr hD (fun m hm => (ih m hm).2.2.2.2.2.1) (fun q hq => (by decide +kernel : ∀ q ∈ fb_ev, q ∈ fb_hv_testOf) q (hfz q hq))
