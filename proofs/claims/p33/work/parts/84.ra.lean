/-! the parser, by how many brackets may still be opened -/
def fb_re : List (Nat × Nat) := [(8, 3), (8, 5), (19, 999), (32, 999), (33, 999), (34, 999), (35, 999), (44, 999), (45, 999), (1, 0), (18, 999), (2, 11), (2, 14), (1, 15), (54, 11), (4, 2), (7, 9), (30, 13), (30, 34), (30, 2), (30, 22), (30, 23), (30, 24), (30, 25), (46, 999), (47, 999), (30, 35), (30, 36), (7, 0), (24, 999), (37, 999), (30, 4), (30, 5), (30, 6), (30, 8), (30, 9), (30, 10), (30, 11), (30, 14), (30, 15), (30, 16), (30, 17), (30, 18), (39, 999), (40, 999), (41, 999), (30, 30), (30, 42), (30, 43), (30, 44), (1, 1), (1, 3), (1, 10), (1, 13), (8, 0), (30, 49), (2, 15), (8, 1)]
def ReAll (ro : ab_R) (G : Nat → Nat) (F : ab_W → Prop) (fz : List (Nat × Nat)) (b : Nat) : Prop := ReK ro G F fz b 0 165 6 ∧ ReK ro G F fz b 1 164 7 ∧ ReK ro G F fz b 2 163 8 ∧ ReK ro G F fz b 6 162 10 ∧ ReK ro G F fz b 7 161 11 ∧ ReK ro G F fz b 9 160 12
theorem re_all {ro : ab_R} {G : Nat → Nat} {fz : List (Nat × Nat)} {F : ab_W → Prop} (hF : ∀ w w', smt G w w' → F w → F w') (hfz : ∀ q ∈ fz, q ∈ fb_re) : ∀ b, ReAll ro G F fz b := by
  intro b
  induction b using Nat.strongRecOn with
  | ind b ih =>
    have ireadPart : ReK ro G F fz b 0 165 6 := by
      intro pc pp fc fp tk e bd io fw lw D hok htk hD
      obtain ⟨d, rfl⟩ : ∃ d, D = d + 6 := ⟨D - 6, by omega⟩
      exact hr_readPart hF d hok htk hD  (fun b1 hb => (ih b1 hb).2.2.1) (fun q hq => (by decide +kernel : ∀ q ∈ fb_re, q ∈ fb_hr_readPart) q (hfz q hq))
    have ireadTerm : ReK ro G F fz b 1 164 7 := by
      intro pc pp fc fp tk e bd io fw lw D hok htk hD
      obtain ⟨d, rfl⟩ : ∃ d, D = d + 6 := ⟨D - 6, by omega⟩
      exact hr_readTerm hF d hok htk hD ireadPart  (fun q hq => (by decide +kernel : ∀ q ∈ fb_re, q ∈ fb_hr_readTerm) q (hfz q hq))
    have ireadSum : ReK ro G F fz b 2 163 8 := by
      intro pc pp fc fp tk e bd io fw lw D hok htk hD
      obtain ⟨d, rfl⟩ : ∃ d, D = d + 6 := ⟨D - 6, by omega⟩
      exact hr_readSum hF d hok htk hD ireadTerm  (fun q hq => (by decide +kernel : ∀ q ∈ fb_re, q ∈ fb_hr_readSum) q (hfz q hq))
    have ireadPlain : ReK ro G F fz b 6 162 10 := by
      intro pc pp fc fp tk e bd io fw lw D hok htk hD
      obtain ⟨d, rfl⟩ : ∃ d, D = d + 6 := ⟨D - 6, by omega⟩
      exact hr_readPlain hF d hok htk hD ireadSum (fun b1 hb => (ih b1 hb).2.2.2.2.2) (fun q hq => (by decide +kernel : ∀ q ∈ fb_re, q ∈ fb_hr_readPlain) q (hfz q hq))
    have ireadBoth : ReK ro G F fz b 7 161 11 := by
      intro pc pp fc fp tk e bd io fw lw D hok htk hD
      obtain ⟨d, rfl⟩ : ∃ d, D = d + 6 := ⟨D - 6, by omega⟩
      exact hr_readBoth hF d hok htk hD ireadPlain  (fun q hq => (by decide +kernel : ∀ q ∈ fb_re, q ∈ fb_hr_readBoth) q (hfz q hq))
    have ireadTest : ReK ro G F fz b 9 160 12 := by
      intro pc pp fc fp tk e bd io fw lw D hok htk hD
      obtain ⟨d, rfl⟩ : ∃ d, D = d + 6 := ⟨D - 6, by omega⟩
      exact hr_readTest hF d hok htk hD ireadBoth  (fun q hq => (by decide +kernel : ∀ q ∈ fb_re, q ∈ fb_hr_readTest) q (hfz q hq))
    exact ⟨ireadPart, ireadTerm, ireadSum, ireadPlain, ireadBoth, ireadTest⟩
