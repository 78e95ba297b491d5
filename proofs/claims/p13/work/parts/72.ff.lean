/-! days to come, of a land alone -/
abbrev ff_S : Type := (Nat → Int) × (Nat → Int → Int) × Int × Int × Int
def ff_go (lw : Option im_T) (v : Nat → Int) (R : Nat → Int → Int) : Nat → (Nat → Int) × (Nat → Int → Int)
  | 0 => (v, R)
  | k + 1 => (pl_send lw (k : Int) (ff_go lw v R k).1 (ff_go lw v R k).2).2
def ff_d (lw : Option im_T) (z : ff_S) : (Nat → Int) × (Nat → Int → Int) := (pl_day (ff_go lw z.1 z.2.1 (z.1 0).toNat).1 (ff_go lw z.1 z.2.1 (z.1 0).toNat).2).2
def ff_1 (lw : Option im_T) (day : Int) (z : ff_S) : ff_S := ((ff_d lw z).1, (ff_d lw z).2, (if z.2.2.1 = 0 ∧ 0 < (ff_d lw z).1 6 then day else z.2.2.1), z.2.2.2.1 + (ff_d lw z).1 6, max z.2.2.2.2 ((ff_d lw z).1 1))
def ff (lw : Option im_T) (v : Nat → Int) (R : Nat → Int → Int) : Nat → ff_S
  | 0 => (v, R, 0, 0, 0)
  | m + 1 => ff_1 lw ((m : Int) + 1) (ff lw v R m)
theorem ff_go_ok (lw : Option im_T) {v : Nat → Int} {R : Nat → Int → Int} (h : LOK v R) : ∀ k : Nat, LOK (ff_go lw v R k).1 (ff_go lw v R k).2 ∧ (ff_go lw v R k).2 7 = R 7 ∧ (ff_go lw v R k).1 5 = v 5 ∧ (ff_go lw v R k).1 0 = v 0
  | 0 => ⟨h, rfl, rfl, rfl⟩
  | k + 1 => by
    obtain ⟨i1, i2, i3, i4⟩ := ff_go_ok lw h k
    obtain ⟨a1, a2, a3⟩ := pl_send_75 lw (k : Int) (ff_go lw v R k).1 (ff_go lw v R k).2
    exact ⟨LOK_send lw i1 k, a1.trans i2, a2.trans i3, a3.trans i4⟩
theorem pl_day_0 {v : Nat → Int} {R : Nat → Int → Int} (h : LOK v R) : (pl_day v R).2.1 0 = v 0 := by
  have hg := lk_grp h
  exact (PDI_k h (v 1).toNat (by omega)).1.1
def FFI (v0 : Nat → Int) (m : Int) (z : ff_S) : Prop := LOK z.1 z.2.1 ∧ z.2.1 7 0 ≤ 999 + m ∧ z.1 5 = v0 5 ∧ z.1 0 = v0 0 ∧ (0 ≤ z.2.2.1 ∧ z.2.2.1 ≤ m) ∧ (0 ≤ z.2.2.2.1 ∧ z.2.2.2.1 ≤ 1568 * m) ∧ (0 ≤ z.2.2.2.2 ∧ z.2.2.2.2 ≤ 16)
theorem ff_d_ok {lw : Option im_T} {v0 : Nat → Int} {m : Int} {z : ff_S} (h : FFI v0 m z) : LOK (ff_d lw z).1 (ff_d lw z).2 ∧ (0 ≤ (ff_d lw z).1 6 ∧ (ff_d lw z).1 6 ≤ 1568) ∧ (ff_d lw z).2 7 0 = z.2.1 7 0 + 1 ∧ (ff_d lw z).1 5 = v0 5 ∧ (ff_d lw z).1 0 = v0 0 := by
  obtain ⟨h1, h2, h3, h4, h5⟩ := h
  obtain ⟨g1, g2, g3, g4⟩ := ff_go_ok lw h1 (z.1 0).toNat
  obtain ⟨b1, b2, b3, b4⟩ := LOK_day g1
  refine ⟨b1, b2, ?_, ?_, ?_⟩
  · show (pl_day _ _).2.2 7 0 = _
    rw [b3, g2]
  · exact (pl_day_5 g1).trans (g3.trans h3)
  · exact (pl_day_0 g1).trans (g4.trans h4)
theorem FFI_1 {lw : Option im_T} {v0 : Nat → Int} {m : Int} {z : ff_S} (h : FFI v0 m z) (hm : 0 ≤ m) : FFI v0 (m + 1) (ff_1 lw (m + 1) z) := by
  obtain ⟨d1, d2, d3, d4, d5⟩ := ff_d_ok (lw := lw) h
  obtain ⟨h1, h2, h3, h4, h5, h6, h7⟩ := h
  have hg := lk_grp d1
  refine ⟨d1, ?_, d4, d5, ?_, ?_, ?_⟩
  · show (ff_d lw z).2 7 0 ≤ 999 + (m + 1)
    omega
  · show 0 ≤ (if z.2.2.1 = 0 ∧ 0 < (ff_d lw z).1 6 then m + 1 else z.2.2.1) ∧ (if z.2.2.1 = 0 ∧ 0 < (ff_d lw z).1 6 then m + 1 else z.2.2.1) ≤ m + 1
    split <;> omega
  · show 0 ≤ z.2.2.2.1 + (ff_d lw z).1 6 ∧ z.2.2.2.1 + (ff_d lw z).1 6 ≤ 1568 * (m + 1)
    omega
  · show 0 ≤ max z.2.2.2.2 ((ff_d lw z).1 1) ∧ max z.2.2.2.2 ((ff_d lw z).1 1) ≤ 16
    omega
theorem FFI_m (lw : Option im_T) {v : Nat → Int} {R : Nat → Int → Int} (h : LOK v R) (hd : R 7 0 ≤ 999) : ∀ m : Nat, FFI v m (ff lw v R m)
  | 0 => ⟨h, (show R 7 0 ≤ 999 + ((0 : Nat) : Int) by omega), rfl, rfl, ⟨Int.le_refl _, Int.le_refl _⟩, ⟨Int.le_refl _, Int.le_refl _⟩, ⟨Int.le_refl _, (show (0 : Int) ≤ 16 by decide)⟩⟩
  | m + 1 => by
    have t := FFI_1 (lw := lw) (FFI_m lw h hd m) (by omega)
    exact t
theorem ff_z (lw : Option im_T) {v : Nat → Int} {R : Nat → Int → Int} (h : LOK v R) (hd : R 7 0 ≤ 999) : ∀ m : Nat, (ff lw v R m).2.2.1 = 0 → (ff lw v R m).2.2.2.1 = 0
  | 0, _ => rfl
  | m + 1, e => by
    have ih := ff_z lw h hd m
    have hI := FFI_m lw h hd m
    have hdk := ff_d_ok (lw := lw) hI
    have e1 : (ff lw v R (m + 1)).2.2.1 = if (ff lw v R m).2.2.1 = 0 ∧ 0 < (ff_d lw (ff lw v R m)).1 6 then (m : Int) + 1 else (ff lw v R m).2.2.1 := rfl
    have e2 : (ff lw v R (m + 1)).2.2.2.1 = (ff lw v R m).2.2.2.1 + (ff_d lw (ff lw v R m)).1 6 := rfl
    rw [e1] at e
    rw [e2]
    have h6 := hdk.2.1
    have h5 := hI.2.2.2.2.1
    by_cases c : (ff lw v R m).2.2.1 = 0 ∧ 0 < (ff_d lw (ff lw v R m)).1 6
    · rw [if_pos c] at e
      omega
    · rw [if_neg c] at e
      have := ih e
      omega
theorem pl_send_no {lw : Option im_T} {p : Int} {v : Nat → Int} {R : Nat → Int → Int} (hp : 0 ≤ p ∧ p < v 0 ∧ p < 10) (h : ¬ (as_bar lw p 0 R = 0 ∧ (as_over lw p 0 R - as_stay lw p 0 R = 0 ∨ v 1 < 16))) : (pl_send lw p v R).2 = (v, R) := by
  have hb := as_bar_b lw p 0 R
  unfold pl_send
  rw [if_neg (fun z => z hp)]
  by_cases c : as_bar lw p 0 R = 1
  · rw [if_pos c]
  · rw [if_neg c]
    have hb0 : as_bar lw p 0 R = 0 := by omega
    by_cases c2 : as_over lw p 0 R - as_stay lw p 0 R = 0
    · exact absurd ⟨hb0, Or.inl c2⟩ h
    · rw [if_neg c2]
      by_cases c3 : 16 ≤ v 1
      · rw [if_pos c3]
      · exact absurd ⟨hb0, Or.inr (by omega)⟩ h
