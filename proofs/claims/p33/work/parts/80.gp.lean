/-! walks of the grammar, from the parts -/
section Gp
variable {c : Nat → Int} {e : Nat} {o : Bool} {n b p q y : Nat}
theorem gi_sum (h1 : gr c e o n b 1 p = some y) (h2 : gr c e o n b 4 y = some q) : gr c e o (n + 1) b 2 p = some q := by
  show (gr c e o n b 1 p).bind (gr c e o n b 4) = some q
  rw [h1]
  exact h2
theorem gi_term (h1 : gr c e o n b 0 p = some y) (h2 : gr c e o n b 3 y = some q) : gr c e o (n + 1) b 1 p = some q := by
  show (gr c e o n b 0 p).bind (gr c e o n b 3) = some q
  rw [h1]
  exact h2
theorem gi_both (h1 : gr c e o n b 6 p = some y) (h2 : gr c e o n b 8 y = some q) : gr c e o (n + 1) b 7 p = some q := by
  show (gr c e o n b 6 p).bind (gr c e o n b 8) = some q
  rw [h1]
  exact h2
theorem gi_test (h1 : gr c e o n b 7 p = some y) (h2 : gr c e o n b 10 y = some q) : gr c e o (n + 1) b 9 p = some q := by
  show (gr c e o n b 7 p).bind (gr c e o n b 10) = some q
  rw [h1]
  exact h2
theorem gi_sl (hc : gc c e p = 143 ∨ gc c e p = 145) (h1 : gr c e o n b 1 (p + 1) = some y) (h2 : gr c e o n b 4 y = some q) : gr c e o (n + 1) b 4 p = some q := by
  show (if gc c e p = 143 ∨ gc c e p = 145 then (gr c e o n b 1 (p + 1)).bind (gr c e o n b 4) else some p) = some q
  rw [if_pos hc, h1]
  exact h2
theorem gi_sl0 (hc : ¬ (gc c e p = 143 ∨ gc c e p = 145)) : gr c e o (n + 1) b 4 p = some p := by
  show (if gc c e p = 143 ∨ gc c e p = 145 then (gr c e o n b 1 (p + 1)).bind (gr c e o n b 4) else some p) = some p
  rw [if_neg hc]
theorem gi_tl (hc : gc c e p = 142 ∨ gc c e p = 147 ∨ gc c e p = 137) (h1 : gr c e o n b 0 (p + 1) = some y) (h2 : gr c e o n b 3 y = some q) : gr c e o (n + 1) b 3 p = some q := by
  show (if gc c e p = 142 ∨ gc c e p = 147 ∨ gc c e p = 137 then (gr c e o n b 0 (p + 1)).bind (gr c e o n b 3) else some p) = some q
  rw [if_pos hc, h1]
  exact h2
theorem gi_tl0 (hc : ¬ (gc c e p = 142 ∨ gc c e p = 147 ∨ gc c e p = 137)) : gr c e o (n + 1) b 3 p = some p := by
  show (if gc c e p = 142 ∨ gc c e p = 147 ∨ gc c e p = 137 then (gr c e o n b 0 (p + 1)).bind (gr c e o n b 3) else some p) = some p
  rw [if_neg hc]
theorem gi_bl (hc : gc c e p = 7) (h1 : gr c e o n b 6 (p + 1) = some y) (h2 : gr c e o n b 8 y = some q) : gr c e o (n + 1) b 8 p = some q := by
  show (if gc c e p = 7 then (gr c e o n b 6 (p + 1)).bind (gr c e o n b 8) else some p) = some q
  rw [if_pos hc, h1]
  exact h2
theorem gi_bl0 (hc : ¬ gc c e p = 7) : gr c e o (n + 1) b 8 p = some p := by
  show (if gc c e p = 7 then (gr c e o n b 6 (p + 1)).bind (gr c e o n b 8) else some p) = some p
  rw [if_neg hc]
theorem gi_ol (hc : gc c e p = 6) (h1 : gr c e o n b 7 (p + 1) = some y) (h2 : gr c e o n b 10 y = some q) : gr c e o (n + 1) b 10 p = some q := by
  show (if gc c e p = 6 then (gr c e o n b 7 (p + 1)).bind (gr c e o n b 10) else some p) = some q
  rw [if_pos hc, h1]
  exact h2
theorem gi_ol0 (hc : ¬ gc c e p = 6) : gr c e o (n + 1) b 10 p = some p := by
  show (if gc c e p = 6 then (gr c e o n b 7 (p + 1)).bind (gr c e o n b 10) else some p) = some p
  rw [if_neg hc]
theorem gi_not (hc : gc c e p = 8) (h1 : gr c e o n b 6 (p + 1) = some q) : gr c e o (n + 1) b 6 p = some q := by
  show (if gc c e p = 8 then gr c e o n b 6 (p + 1) else gr c e o n b 5 p) = some q
  rw [if_pos hc]
  exact h1
theorem gi_not0 (hc : ¬ gc c e p = 8) (h1 : gr c e o n b 5 p = some q) : gr c e o (n + 1) b 6 p = some q := by
  show (if gc c e p = 8 then gr c e o n b 6 (p + 1) else gr c e o n b 5 p) = some q
  rw [if_neg hc]
  exact h1
theorem gi_par (hc : gc c e p = 140) (h1 : gr c e o n b 9 (p + 1) = some y) (h2 : gc c e y = 141) : gr c e o (n + 1) (b + 1) 5 p = some (y + 1) := by
  unfold gr
  rw [if_pos hc]
  show (gr c e o n b 9 (p + 1)).bind (fun q => if gc c e q = 141 then some (q + 1) else none) = some (y + 1)
  rw [h1]
  show (if gc c e y = 141 then some (y + 1) else none) = some (y + 1)
  rw [if_pos h2]
theorem gi_cmp (hc : ¬ gc c e p = 140) (h1 : gr c e o n b 2 p = some y) (h2 : gc c e y = 160 ∨ gc c e y = 161 ∨ gc c e y = 162) (h3 : gr c e o n b 2 (y + 1) = some q) : gr c e o (n + 1) b 5 p = some q := by
  unfold gr
  rw [if_neg hc, h1]
  show (if gc c e y = 160 ∨ gc c e y = 161 ∨ gc c e y = 162 then gr c e o n b 2 (y + 1) else none) = some q
  rw [if_pos h2]
  exact h3
theorem gi_br (hc : gc c e p = 191) (h1 : gr c e o n b 2 (p + 1) = some y) (h2 : gc c e y = 193) : gr c e o (n + 1) (b + 1) 0 p = some (y + 1) := by
  unfold gr
  rw [if_pos hc]
  show (gr c e o n b 2 (p + 1)).bind (fun q => if gc c e q = 193 then some (q + 1) else none) = some (y + 1)
  rw [h1]
  show (if gc c e y = 193 then some (y + 1) else none) = some (y + 1)
  rw [if_pos h2]
theorem gi_lf1 (hc : ¬ gc c e p = 191) (h1 : gr_leaf o (gc c e p) = true) (h2 : ¬ (o = true ∧ (gc c e p = 14 ∨ gc c e p = 15))) : gr c e o (n + 1) b 0 p = some (p + 1) := by
  unfold gr
  rw [if_neg hc, if_pos h1, if_neg h2]
  rfl
theorem gi_lf2 (hc : ¬ gc c e p = 191) (h1 : gr_leaf o (gc c e p) = true) (h2 : o = true ∧ (gc c e p = 14 ∨ gc c e p = 15)) (h3 : gc c e (p + 1) = 50) : gr c e o (n + 1) b 0 p = some (p + 2) := by
  unfold gr
  rw [if_neg hc, if_pos h1, if_pos h2, if_pos h3]
  rfl
theorem gr_mono1 : ∀ (n b k p q : Nat), k ≤ 10 → gr c e o n b k p = some q → gr c e o (n + 1) b k p = some q := by
  intro n
  induction n with
  | zero => intro b k p q _ h; cases h
  | succ n ih =>
    intro b k p q hk h
    rcases (show k = 0 ∨ k = 1 ∨ k = 2 ∨ k = 3 ∨ k = 4 ∨ k = 5 ∨ k = 6 ∨ k = 7 ∨ k = 8 ∨ k = 9 ∨ k = 10 by omega) with rfl | rfl | rfl | rfl | rfl | rfl | rfl | rfl | rfl | rfl | rfl
    · obtain ⟨m, hm, hc | hc⟩ := gr_part h
      · obtain ⟨z, b1, y, rfl, h1, h2, rfl⟩ := hc
        cases hm
        exact gi_br z (ih _ _ _ _ (by omega) h1) h2
      · obtain ⟨z, h1, h2 | h2⟩ := hc
        · obtain ⟨z1, z2, z3, rfl⟩ := h2
          exact gi_lf2 z h1 ⟨z1, z2⟩ z3
        · obtain ⟨z1, rfl⟩ := h2
          exact gi_lf1 z h1 z1
    · obtain ⟨m, y, hm, h1, h2⟩ := gr_term h
      cases hm
      exact gi_term (ih _ _ _ _ (by omega) h1) (ih _ _ _ _ (by omega) h2)
    · obtain ⟨m, y, hm, h1, h2⟩ := gr_sum h
      cases hm
      exact gi_sum (ih _ _ _ _ (by omega) h1) (ih _ _ _ _ (by omega) h2)
    · rcases gr_tl h with ⟨z, m, y, hm, h1, h2⟩ | ⟨z, rfl⟩
      · cases hm
        exact gi_tl z (ih _ _ _ _ (by omega) h1) (ih _ _ _ _ (by omega) h2)
      · exact gi_tl0 z
    · rcases gr_sl h with ⟨z, m, y, hm, h1, h2⟩ | ⟨z, rfl⟩
      · cases hm
        exact gi_sl z (ih _ _ _ _ (by omega) h1) (ih _ _ _ _ (by omega) h2)
      · exact gi_sl0 z
    · obtain ⟨m, hm, hc | hc⟩ := gr_pos h
      · obtain ⟨z, b1, y, rfl, h1, h2, rfl⟩ := hc
        cases hm
        exact gi_par z (ih _ _ _ _ (by omega) h1) h2
      · obtain ⟨z, y, h1, h2, h3⟩ := hc
        cases hm
        exact gi_cmp z (ih _ _ _ _ (by omega) h1) h2 (ih _ _ _ _ (by omega) h3)
    · obtain ⟨m, hm, ⟨z, h1⟩ | ⟨z, h1⟩⟩ := gr_plain h
      · cases hm
        exact gi_not z (ih _ _ _ _ (by omega) h1)
      · cases hm
        exact gi_not0 z (ih _ _ _ _ (by omega) h1)
    · obtain ⟨m, y, hm, h1, h2⟩ := gr_both h
      cases hm
      exact gi_both (ih _ _ _ _ (by omega) h1) (ih _ _ _ _ (by omega) h2)
    · rcases gr_bl h with ⟨z, m, y, hm, h1, h2⟩ | ⟨z, rfl⟩
      · cases hm
        exact gi_bl z (ih _ _ _ _ (by omega) h1) (ih _ _ _ _ (by omega) h2)
      · exact gi_bl0 z
    · obtain ⟨m, y, hm, h1, h2⟩ := gr_test h
      cases hm
      exact gi_test (ih _ _ _ _ (by omega) h1) (ih _ _ _ _ (by omega) h2)
    · rcases gr_ol h with ⟨z, m, y, hm, h1, h2⟩ | ⟨z, rfl⟩
      · cases hm
        exact gi_ol z (ih _ _ _ _ (by omega) h1) (ih _ _ _ _ (by omega) h2)
      · exact gi_ol0 z
theorem gr_mono {m k : Nat} (h : gr c e o n b k p = some q) (hk : k ≤ 10) (hm : n ≤ m) : gr c e o m b k p = some q := by
  induction hm with
  | refl => exact h
  | step _ ih => exact gr_mono1 _ _ _ _ _ hk ih
/-- there is a walk -/
def GP (c : Nat → Int) (e : Nat) (o : Bool) (b k p q : Nat) : Prop := ∃ n, gr c e o n b k p = some q
theorem gp2 {b1 b2 k1 k2 p1 p2 q1 q2 : Nat} (h1 : GP c e o b1 k1 p1 q1) (h2 : GP c e o b2 k2 p2 q2) (hk1 : k1 ≤ 10) (hk2 : k2 ≤ 10) : ∃ n, gr c e o n b1 k1 p1 = some q1 ∧ gr c e o n b2 k2 p2 = some q2 := by
  obtain ⟨n, h1⟩ := h1
  obtain ⟨m, h2⟩ := h2
  exact ⟨n + m, gr_mono h1 hk1 (by omega), gr_mono h2 hk2 (by omega)⟩
theorem gp_sum (h1 : GP c e o b 1 p y) (h2 : GP c e o b 4 y q) : GP c e o b 2 p q := by
  obtain ⟨n, a1, a2⟩ := gp2 h1 h2 (by decide) (by decide)
  exact ⟨n + 1, gi_sum a1 a2⟩
theorem gp_term (h1 : GP c e o b 0 p y) (h2 : GP c e o b 3 y q) : GP c e o b 1 p q := by
  obtain ⟨n, a1, a2⟩ := gp2 h1 h2 (by decide) (by decide)
  exact ⟨n + 1, gi_term a1 a2⟩
theorem gp_both (h1 : GP c e o b 6 p y) (h2 : GP c e o b 8 y q) : GP c e o b 7 p q := by
  obtain ⟨n, a1, a2⟩ := gp2 h1 h2 (by decide) (by decide)
  exact ⟨n + 1, gi_both a1 a2⟩
theorem gp_test (h1 : GP c e o b 7 p y) (h2 : GP c e o b 10 y q) : GP c e o b 9 p q := by
  obtain ⟨n, a1, a2⟩ := gp2 h1 h2 (by decide) (by decide)
  exact ⟨n + 1, gi_test a1 a2⟩
theorem gp_sl (hc : gc c e p = 143 ∨ gc c e p = 145) (h1 : GP c e o b 1 (p + 1) y) (h2 : GP c e o b 4 y q) : GP c e o b 4 p q := by
  obtain ⟨n, a1, a2⟩ := gp2 h1 h2 (by decide) (by decide)
  exact ⟨n + 1, gi_sl hc a1 a2⟩
theorem gp_sl0 (hc : ¬ (gc c e p = 143 ∨ gc c e p = 145)) : GP c e o b 4 p p := ⟨1, gi_sl0 hc⟩
theorem gp_tl (hc : gc c e p = 142 ∨ gc c e p = 147 ∨ gc c e p = 137) (h1 : GP c e o b 0 (p + 1) y) (h2 : GP c e o b 3 y q) : GP c e o b 3 p q := by
  obtain ⟨n, a1, a2⟩ := gp2 h1 h2 (by decide) (by decide)
  exact ⟨n + 1, gi_tl hc a1 a2⟩
theorem gp_tl0 (hc : ¬ (gc c e p = 142 ∨ gc c e p = 147 ∨ gc c e p = 137)) : GP c e o b 3 p p := ⟨1, gi_tl0 hc⟩
theorem gp_bl (hc : gc c e p = 7) (h1 : GP c e o b 6 (p + 1) y) (h2 : GP c e o b 8 y q) : GP c e o b 8 p q := by
  obtain ⟨n, a1, a2⟩ := gp2 h1 h2 (by decide) (by decide)
  exact ⟨n + 1, gi_bl hc a1 a2⟩
theorem gp_bl0 (hc : ¬ gc c e p = 7) : GP c e o b 8 p p := ⟨1, gi_bl0 hc⟩
theorem gp_ol (hc : gc c e p = 6) (h1 : GP c e o b 7 (p + 1) y) (h2 : GP c e o b 10 y q) : GP c e o b 10 p q := by
  obtain ⟨n, a1, a2⟩ := gp2 h1 h2 (by decide) (by decide)
  exact ⟨n + 1, gi_ol hc a1 a2⟩
theorem gp_ol0 (hc : ¬ gc c e p = 6) : GP c e o b 10 p p := ⟨1, gi_ol0 hc⟩
theorem gp_not (hc : gc c e p = 8) (h1 : GP c e o b 6 (p + 1) q) : GP c e o b 6 p q := h1.elim (fun n a => ⟨n + 1, gi_not hc a⟩)
theorem gp_not0 (hc : ¬ gc c e p = 8) (h1 : GP c e o b 5 p q) : GP c e o b 6 p q := h1.elim (fun n a => ⟨n + 1, gi_not0 hc a⟩)
theorem gp_par (hc : gc c e p = 140) (h1 : GP c e o b 9 (p + 1) y) (h2 : gc c e y = 141) : GP c e o (b + 1) 5 p (y + 1) := h1.elim (fun n a => ⟨n + 1, gi_par hc a h2⟩)
theorem gp_cmp (hc : ¬ gc c e p = 140) (h1 : GP c e o b 2 p y) (h2 : gc c e y = 160 ∨ gc c e y = 161 ∨ gc c e y = 162) (h3 : GP c e o b 2 (y + 1) q) : GP c e o b 5 p q := by
  obtain ⟨n, a1, a2⟩ := gp2 h1 h3 (by decide) (by decide)
  exact ⟨n + 1, gi_cmp hc a1 h2 a2⟩
theorem gp_br (hc : gc c e p = 191) (h1 : GP c e o b 2 (p + 1) y) (h2 : gc c e y = 193) : GP c e o (b + 1) 0 p (y + 1) := h1.elim (fun n a => ⟨n + 1, gi_br hc a h2⟩)
theorem gp_lf1 (hc : ¬ gc c e p = 191) (h1 : gr_leaf o (gc c e p) = true) (h2 : ¬ (o = true ∧ (gc c e p = 14 ∨ gc c e p = 15))) : GP c e o b 0 p (p + 1) := ⟨1, gi_lf1 hc h1 h2⟩
theorem gp_lf2 (hc : ¬ gc c e p = 191) (h1 : gr_leaf o (gc c e p) = true) (h2 : o = true ∧ (gc c e p = 14 ∨ gc c e p = 15)) (h3 : gc c e (p + 1) = 50) : GP c e o b 0 p (p + 2) := ⟨1, gi_lf2 hc h1 h2 h3⟩
end Gp
/-- a text laid further on -/
theorem gr_shift {c c' : Nat → Int} {e s : Nat} {o : Bool} (hs : ∀ p, gc c' (e + s) (p + s) = gc c e p) : ∀ (n b k p q : Nat), k ≤ 10 → gr c e o n b k p = some q → gr c' (e + s) o n b k (p + s) = some (q + s) := by
  intro n
  have h1s : ∀ p, p + 1 + s = p + s + 1 := fun p => by omega
  induction n with
  | zero => intro b k p q _ h; cases h
  | succ n ih =>
    intro b k p q hk h
    rcases (show k = 0 ∨ k = 1 ∨ k = 2 ∨ k = 3 ∨ k = 4 ∨ k = 5 ∨ k = 6 ∨ k = 7 ∨ k = 8 ∨ k = 9 ∨ k = 10 by omega) with rfl | rfl | rfl | rfl | rfl | rfl | rfl | rfl | rfl | rfl | rfl
    · obtain ⟨m, hm, hc | hc⟩ := gr_part h
      · obtain ⟨z, b1, y, rfl, h1, h2, rfl⟩ := hc
        cases hm
        have i1 := ih _ _ _ _ (by omega) h1
        rw [h1s] at i1
        rw [h1s]
        exact gi_br (by rw [hs]; exact z) i1 (by rw [hs]; exact h2)
      · obtain ⟨z, h1, h2 | h2⟩ := hc
        · obtain ⟨z1, z2, z3, rfl⟩ := h2
          rw [show p + 2 + s = p + s + 2 by omega]
          exact gi_lf2 (by rw [hs]; exact z) (by rw [hs]; exact h1) (by rw [hs]; exact ⟨z1, z2⟩) (by rw [← h1s, hs]; exact z3)
        · obtain ⟨z1, rfl⟩ := h2
          rw [h1s]
          exact gi_lf1 (by rw [hs]; exact z) (by rw [hs]; exact h1) (by rw [hs]; exact z1)
    · obtain ⟨m, y, hm, h1, h2⟩ := gr_term h
      cases hm
      exact gi_term (ih _ _ _ _ (by omega) h1) (ih _ _ _ _ (by omega) h2)
    · obtain ⟨m, y, hm, h1, h2⟩ := gr_sum h
      cases hm
      exact gi_sum (ih _ _ _ _ (by omega) h1) (ih _ _ _ _ (by omega) h2)
    · rcases gr_tl h with ⟨z, m, y, hm, h1, h2⟩ | ⟨z, rfl⟩
      · cases hm
        have i1 := ih _ _ _ _ (by omega) h1
        rw [h1s] at i1
        exact gi_tl (by rw [hs]; exact z) i1 (ih _ _ _ _ (by omega) h2)
      · exact gi_tl0 (by rw [hs]; exact z)
    · rcases gr_sl h with ⟨z, m, y, hm, h1, h2⟩ | ⟨z, rfl⟩
      · cases hm
        have i1 := ih _ _ _ _ (by omega) h1
        rw [h1s] at i1
        exact gi_sl (by rw [hs]; exact z) i1 (ih _ _ _ _ (by omega) h2)
      · exact gi_sl0 (by rw [hs]; exact z)
    · obtain ⟨m, hm, hc | hc⟩ := gr_pos h
      · obtain ⟨z, b1, y, rfl, h1, h2, rfl⟩ := hc
        cases hm
        have i1 := ih _ _ _ _ (by omega) h1
        rw [h1s] at i1
        rw [h1s]
        exact gi_par (by rw [hs]; exact z) i1 (by rw [hs]; exact h2)
      · obtain ⟨z, y, h1, h2, h3⟩ := hc
        cases hm
        have i3 := ih _ _ _ _ (by omega) h3
        rw [h1s] at i3
        exact gi_cmp (by rw [hs]; exact z) (ih _ _ _ _ (by omega) h1) (by rw [hs]; exact h2) i3
    · obtain ⟨m, hm, ⟨z, h1⟩ | ⟨z, h1⟩⟩ := gr_plain h
      · cases hm
        have i1 := ih _ _ _ _ (by omega) h1
        rw [h1s] at i1
        exact gi_not (by rw [hs]; exact z) i1
      · cases hm
        exact gi_not0 (by rw [hs]; exact z) (ih _ _ _ _ (by omega) h1)
    · obtain ⟨m, y, hm, h1, h2⟩ := gr_both h
      cases hm
      exact gi_both (ih _ _ _ _ (by omega) h1) (ih _ _ _ _ (by omega) h2)
    · rcases gr_bl h with ⟨z, m, y, hm, h1, h2⟩ | ⟨z, rfl⟩
      · cases hm
        have i1 := ih _ _ _ _ (by omega) h1
        rw [h1s] at i1
        exact gi_bl (by rw [hs]; exact z) i1 (ih _ _ _ _ (by omega) h2)
      · exact gi_bl0 (by rw [hs]; exact z)
    · obtain ⟨m, y, hm, h1, h2⟩ := gr_test h
      cases hm
      exact gi_test (ih _ _ _ _ (by omega) h1) (ih _ _ _ _ (by omega) h2)
    · rcases gr_ol h with ⟨z, m, y, hm, h1, h2⟩ | ⟨z, rfl⟩
      · cases hm
        have i1 := ih _ _ _ _ (by omega) h1
        rw [h1s] at i1
        exact gi_ol (by rw [hs]; exact z) i1 (ih _ _ _ _ (by omega) h2)
      · exact gi_ol0 (by rw [hs]; exact z)
/-- an order -/
def gor (c : Nat → Int) (e n p : Nat) : Option Nat := (if gc c e p = 22 then some (p + 1) else if gc c e p = 21 then gr c e true n 8 2 (p + 1) else (gr c e true n 8 2 (p + 1)).bind (fun y => gr c e true n 8 2 (y + 1))).bind (fun y => (if gc c e y = 27 then (if gc c e (y + 1) = 50 then some (y + 2) else none) else some y).bind (fun z => if gc c e z = 5 then gr c e true n 8 9 (z + 1) else some z))
/-- a text of clauses: any fuel -/
def gls (K : Nat → Option Nat) (e : Nat) : Nat → Nat → Prop
  | 0, _ => False
  | m + 1, p => if p < e then ∃ q, K p = some q ∧ p < q ∧ gls K e m (q + 1) else True
theorem glaw_gls {c : Nat → Int} {e n : Nat} : ∀ m p, glaw c e n m p ↔ gls (gcl c e n) e m p := by
  intro m
  induction m with
  | zero => intro p; exact Iff.rfl
  | succ m ih =>
    intro p
    unfold glaw gls
    by_cases z : p < e
    · rw [if_pos z, if_pos z]
      exact ⟨fun ⟨q, h1, h2, h3⟩ => ⟨q, h1, h2, (ih _).mp h3⟩, fun ⟨q, h1, h2, h3⟩ => ⟨q, h1, h2, (ih _).mpr h3⟩⟩
    · rw [if_neg z, if_neg z]
theorem gls_up {K K' : Nat → Option Nat} {e : Nat} (hK : ∀ p q, K p = some q → K' p = some q) : ∀ m m' p, m ≤ m' → gls K e m p → gls K' e m' p := by
  intro m
  induction m with
  | zero => intro m' p _ h; exact absurd h (fun z => z)
  | succ m ih =>
    intro m' p hm h
    cases m' with
    | zero => omega
    | succ m' =>
      unfold gls at h ⊢
      by_cases z : p < e
      · rw [if_pos z] at h ⊢
        obtain ⟨q, h1, h2, h3⟩ := h
        exact ⟨q, hK _ _ h1, h2, ih _ _ (by omega) h3⟩
      · rw [if_neg z]
        trivial
theorem gcl_mono {c : Nat → Int} {e n m p q : Nat} (h : gcl c e n p = some q) (hm : n ≤ m) : gcl c e m p = some q := by
  unfold gcl at h ⊢
  obtain ⟨y, h1, h2⟩ := gb_split h
  have e1 : (if c p = 4 then some (p + 1) else gr c e false m 8 2 (p + 1)) = some y := by
    by_cases z : c p = 4
    · rw [if_pos z] at h1 ⊢
      exact h1
    · rw [if_neg z] at h1 ⊢
      exact gr_mono h1 (by decide) hm
  rw [e1]
  show (if gc c e y = 5 then gr c e false m 8 9 (y + 1) else some y) = some q
  by_cases z : gc c e y = 5
  · rw [if_pos z] at h2 ⊢
    exact gr_mono h2 (by decide) hm
  · rw [if_neg z] at h2 ⊢
    exact h2
theorem gor_mono {c : Nat → Int} {e n m p q : Nat} (h : gor c e n p = some q) (hm : n ≤ m) : gor c e m p = some q := by
  unfold gor at h ⊢
  obtain ⟨y, h1, h2⟩ := gb_split h
  have e1 : (if gc c e p = 22 then some (p + 1) else if gc c e p = 21 then gr c e true m 8 2 (p + 1) else (gr c e true m 8 2 (p + 1)).bind (fun y => gr c e true m 8 2 (y + 1))) = some y := by
    by_cases z : gc c e p = 22
    · rw [if_pos z] at h1 ⊢
      exact h1
    · rw [if_neg z] at h1 ⊢
      by_cases z2 : gc c e p = 21
      · rw [if_pos z2] at h1 ⊢
        exact gr_mono h1 (by decide) hm
      · rw [if_neg z2] at h1 ⊢
        obtain ⟨x, h3, h4⟩ := gb_split h1
        rw [gr_mono h3 (by decide) hm]
        exact gr_mono h4 (by decide) hm
  rw [e1]
  obtain ⟨x, h3, h4⟩ := gb_split h2
  show ((if gc c e y = 27 then (if gc c e (y + 1) = 50 then some (y + 2) else none) else some y).bind (fun z => if gc c e z = 5 then gr c e true m 8 9 (z + 1) else some z)) = some q
  rw [h3]
  show (if gc c e x = 5 then gr c e true m 8 9 (x + 1) else some x) = some q
  by_cases z : gc c e x = 5
  · rw [if_pos z] at h4 ⊢
    exact gr_mono h4 (by decide) hm
  · rw [if_neg z] at h4 ⊢
    exact h4
/-- clauses of a law (false), of orders (true) -/
def gk (o : Bool) (c : Nat → Int) (e n p : Nat) : Option Nat := match o with
  | false => gcl c e n p
  | true => gor c e n p
theorem gk_mono {o : Bool} {c : Nat → Int} {e n m p q : Nat} (h : gk o c e n p = some q) (hm : n ≤ m) : gk o c e m p = some q := by
  cases o with
  | false => exact gcl_mono h hm
  | true => exact gor_mono h hm
def GW (o : Bool) (c : Nat → Int) (e p : Nat) : Prop := ∃ n m, gls (gk o c e n) e m p
def GK (o : Bool) (c : Nat → Int) (e p q : Nat) : Prop := p < q ∧ ∃ n, gk o c e n p = some q
theorem gw_cons {o : Bool} {c : Nat → Int} {e p q : Nat} (h : GK o c e p q) (h2 : GW o c e (q + 1)) : GW o c e p := by
  obtain ⟨hl, n, hn⟩ := h
  obtain ⟨n2, m2, h2⟩ := h2
  refine ⟨n + n2, m2 + 1, ?_⟩
  unfold gls
  by_cases z : p < e
  · rw [if_pos z]
    exact ⟨q, gk_mono hn (by omega), hl, gls_up (fun p q h => gk_mono h (by omega)) _ _ _ (Nat.le_refl _) h2⟩
  · rw [if_neg z]
    trivial
theorem gw_end {o : Bool} {c : Nat → Int} {e p : Nat} (h : ¬ p < e) : GW o c e p := by
  refine ⟨0, 1, ?_⟩
  unfold gls
  rw [if_neg h]
  trivial
theorem gw_in {o : Bool} {c : Nat → Int} {e p : Nat} (h : GW o c e p) (hp : p < e) : ∃ n q, gk o c e n p = some q ∧ p < q ∧ GW o c e (q + 1) := by
  obtain ⟨n, m, h⟩ := h
  cases m with
  | zero => exact absurd h (fun z => z)
  | succ m =>
    unfold gls at h
    rw [if_pos hp] at h
    obtain ⟨q, h1, h2, h3⟩ := h
    exact ⟨n, q, h1, h2, n, m, h3⟩
theorem gk_shift {o : Bool} {c c' : Nat → Int} {e s n p q : Nat} (hs : ∀ p, gc c' (e + s) (p + s) = gc c e p) (hp : p < e) (h : gk o c e n p = some q) : gk o c' (e + s) n (p + s) = some (q + s) := by
  have h1s : ∀ p, p + 1 + s = p + s + 1 := fun p => by omega
  cases o with
  | false =>
    have h : gcl c e n p = some q := h
    show gcl c' (e + s) n (p + s) = some (q + s)
    unfold gcl at h ⊢
    have ec : c' (p + s) = c p := by
      have := hs p
      unfold gc at this
      rw [if_pos hp, if_pos (by omega)] at this
      exact this
    obtain ⟨y, h1, h2⟩ := gb_split h
    have e1 : (if c' (p + s) = 4 then some (p + s + 1) else gr c' (e + s) false n 8 2 (p + s + 1)) = some (y + s) := by
      rw [ec]
      by_cases z : c p = 4
      · rw [if_pos z] at h1 ⊢
        cases h1
        rw [h1s]
      · rw [if_neg z] at h1 ⊢
        have := gr_shift hs _ _ _ _ _ (by decide) h1
        rw [h1s] at this
        exact this
    rw [e1]
    show (if gc c' (e + s) (y + s) = 5 then gr c' (e + s) false n 8 9 (y + s + 1) else some (y + s)) = some (q + s)
    rw [hs]
    by_cases z : gc c e y = 5
    · rw [if_pos z] at h2 ⊢
      have := gr_shift hs _ _ _ _ _ (by decide) h2
      rw [h1s] at this
      exact this
    · rw [if_neg z] at h2 ⊢
      cases h2
      rfl
  | true =>
    have h : gor c e n p = some q := h
    show gor c' (e + s) n (p + s) = some (q + s)
    unfold gor at h ⊢
    obtain ⟨y, h1, h2⟩ := gb_split h
    have e1 : (if gc c' (e + s) (p + s) = 22 then some (p + s + 1) else if gc c' (e + s) (p + s) = 21 then gr c' (e + s) true n 8 2 (p + s + 1) else (gr c' (e + s) true n 8 2 (p + s + 1)).bind (fun y => gr c' (e + s) true n 8 2 (y + 1))) = some (y + s) := by
      rw [hs]
      by_cases z : gc c e p = 22
      · rw [if_pos z] at h1 ⊢
        cases h1
        rw [h1s]
      · rw [if_neg z] at h1 ⊢
        by_cases z2 : gc c e p = 21
        · rw [if_pos z2] at h1 ⊢
          have := gr_shift hs _ _ _ _ _ (by decide) h1
          rw [h1s] at this
          exact this
        · rw [if_neg z2] at h1 ⊢
          obtain ⟨x, h3, h4⟩ := gb_split h1
          have i3 := gr_shift hs _ _ _ _ _ (by decide) h3
          have i4 := gr_shift hs _ _ _ _ _ (by decide) h4
          rw [h1s] at i3 i4
          rw [i3]
          exact i4
    rw [e1]
    obtain ⟨x, h3, h4⟩ := gb_split h2
    show ((if gc c' (e + s) (y + s) = 27 then (if gc c' (e + s) (y + s + 1) = 50 then some (y + s + 2) else none) else some (y + s)).bind (fun z => if gc c' (e + s) z = 5 then gr c' (e + s) true n 8 9 (z + 1) else some z)) = some (q + s)
    have e3 : (if gc c' (e + s) (y + s) = 27 then (if gc c' (e + s) (y + s + 1) = 50 then some (y + s + 2) else none) else some (y + s)) = some (x + s) := by
      rw [hs, ← h1s, hs]
      by_cases z : gc c e y = 27
      · rw [if_pos z] at h3 ⊢
        by_cases z2 : gc c e (y + 1) = 50
        · rw [if_pos z2] at h3 ⊢
          cases h3
          rw [show y + 2 + s = y + s + 2 by omega]
        · rw [if_neg z2] at h3
          cases h3
      · rw [if_neg z] at h3 ⊢
        cases h3
        rfl
    rw [e3]
    show (if gc c' (e + s) (x + s) = 5 then gr c' (e + s) true n 8 9 (x + s + 1) else some (x + s)) = some (q + s)
    rw [hs]
    by_cases z : gc c e x = 5
    · rw [if_pos z] at h4 ⊢
      have := gr_shift hs _ _ _ _ _ (by decide) h4
      rw [h1s] at this
      exact this
    · rw [if_neg z] at h4 ⊢
      cases h4
      rfl
theorem gw_shift {o : Bool} {c c' : Nat → Int} {e s p : Nat} (hs : ∀ p, gc c' (e + s) (p + s) = gc c e p) (h : GW o c e p) : GW o c' (e + s) (p + s) := by
  obtain ⟨n, m, h⟩ := h
  refine ⟨n, m, ?_⟩
  induction m generalizing p with
  | zero => exact absurd h (fun z => z)
  | succ m ih =>
    unfold gls at h ⊢
    by_cases z : p < e
    · rw [if_pos z] at h
      rw [if_pos (show p + s < e + s by omega)]
      obtain ⟨q, h1, h2, h3⟩ := h
      have i3 := ih h3
      rw [show q + 1 + s = q + s + 1 by omega] at i3
      exact ⟨q + s, gk_shift hs z h1, by omega, i3⟩
    · rw [if_neg (show ¬ p + s < e + s by omega)]
      trivial
/-- a law, as KP has it -/
theorem gw_gwf {f : Nat → Int32} {t : Nat} (h : GW false (cf f) (400 * t + (f (114 + t)).toInt.toNat) (400 * t)) : gwf f t := by
  obtain ⟨n, m, h⟩ := h
  exact ⟨n, m, (glaw_gls m _).mpr h⟩
theorem gor_congr {c c' : Nat → Int} {e n p : Nat} (h : ∀ p, gc c e p = gc c' e p) : gor c e n p = gor c' e n p := by
  unfold gor
  simp only [h, gr_congr h]
theorem gw_congr {c c' : Nat → Int} {e p : Nat} (h : ∀ p, gc c e p = gc c' e p) (hw : GW true c e p) : GW true c' e p := by
  obtain ⟨n, m, hw⟩ := hw
  exact ⟨n, m, gls_up (fun p q hq => by rw [show gk true c' e n p = gor c' e n p from rfl, ← gor_congr h]; exact hq) _ _ _ (Nat.le_refl _) hw⟩
