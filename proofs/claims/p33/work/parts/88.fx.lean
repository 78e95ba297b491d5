/-! orders: the text is as it was -/
def FX (pk : Nat) (f0 : Nat → Int32) (F : ab_W → Prop) (w : ab_W) : Prop := (∃ f' : Nat → Int32, w[pk]? = some (.inl (0, 5721, .inl f')) ∧ ∀ j, 114 ≤ j → f' j = f0 j) ∧ F w
theorem FX_same {G : Nat → Nat} {F : ab_W → Prop} {pk : Nat} {f0 : Nat → Int32} (hGk : G pk = 32) (hF : ∀ w w', ty_same G prM w w' → F w → F w') : ∀ w w', smt G w w' → FX pk f0 F w → FX pk f0 F w' := by
  intro w w' h hx
  obtain ⟨⟨f', h1, h2⟩, h3⟩ := hx
  obtain ⟨f2, k1, k2⟩ := h.2 pk f' hGk h1
  exact ⟨⟨f2, k1, fun j hj => (k2 j hj).trans (h2 j hj)⟩, hF _ _ h.1 h3⟩
theorem gor_fx {f1 f0 : Nat → Int32} {e n p : Nat} (h : ∀ j, 114 ≤ j → f1 j = f0 j) : gor (cf f1) e n p = gor (cf f0) e n p := by
  refine gor_congr (fun p => ?_)
  unfold gc cf
  rw [h (121 + p) (by omega)]
section Ge
variable {c : Nat → Int} {e N p q y z : Nat}
theorem gr_in2 {o : Bool} {b : Nat} (h : gr c e o N b 2 p = some q) : p < e := by
  obtain ⟨m, y, _, h1, _⟩ := gr_sum h
  obtain ⟨m2, y2, _, h3, _⟩ := gr_term h1
  obtain ⟨m3, _, h4⟩ := gr_part h3
  refine gc_lt (c := c) (fun z => ?_)
  rcases h4 with ⟨h5, _⟩ | ⟨_, h5, _⟩
  · omega
  · rw [z] at h5
    cases o <;> exact absurd h5 (by decide)
theorem gor_e (h : gor c e N p = some q) : ∃ y z, ((gc c e p = 22 ∧ y = p + 1) ∨ (gc c e p = 21 ∧ gr c e true N 8 2 (p + 1) = some y) ∨ (¬ gc c e p = 22 ∧ ¬ gc c e p = 21 ∧ ∃ x, gr c e true N 8 2 (p + 1) = some x ∧ gr c e true N 8 2 (x + 1) = some y)) ∧ ((gc c e y = 27 ∧ gc c e (y + 1) = 50 ∧ z = y + 2) ∨ (¬ gc c e y = 27 ∧ z = y)) ∧ ((gc c e z = 5 ∧ gr c e true N 8 9 (z + 1) = some q) ∨ (¬ gc c e z = 5 ∧ q = z)) := by
  unfold gor at h
  obtain ⟨y, h1, h2⟩ := gb_split h
  obtain ⟨z, h3, h4⟩ := gb_split h2
  refine ⟨y, z, ?_, ?_, ?_⟩
  · by_cases a1 : gc c e p = 22
    · rw [if_pos a1] at h1
      cases h1
      exact Or.inl ⟨a1, rfl⟩
    · rw [if_neg a1] at h1
      by_cases a2 : gc c e p = 21
      · rw [if_pos a2] at h1
        exact Or.inr (Or.inl ⟨a2, h1⟩)
      · rw [if_neg a2] at h1
        obtain ⟨x, h5, h6⟩ := gb_split h1
        exact Or.inr (Or.inr ⟨a1, a2, x, h5, h6⟩)
  · by_cases a1 : gc c e y = 27
    · rw [if_pos a1] at h3
      by_cases a2 : gc c e (y + 1) = 50
      · rw [if_pos a2] at h3
        cases h3
        exact Or.inl ⟨a1, a2, rfl⟩
      · rw [if_neg a2] at h3
        cases h3
    · rw [if_neg a1] at h3
      cases h3
      exact Or.inr ⟨a1, rfl⟩
  · by_cases a1 : gc c e z = 5
    · rw [if_pos a1] at h4
      exact Or.inl ⟨a1, h4⟩
    · rw [if_neg a1] at h4
      cases h4
      exact Or.inr ⟨a1, rfl⟩
/-- the sums that are still to come -/
def goS (c : Nat → Int) (e N : Nat) (n k : Int) (g y : Nat) : Prop := (k = n ∧ g = y) ∨ (k + 1 = n ∧ k = 0 ∧ gr c e true N 8 2 g = some y) ∨ (k + 1 = n ∧ k = 1 ∧ gr c e true N 8 2 (g + 1) = some y) ∨ (n = 2 ∧ k = 0 ∧ ∃ x, gr c e true N 8 2 g = some x ∧ gr c e true N 8 2 (x + 1) = some y)
end Ge
