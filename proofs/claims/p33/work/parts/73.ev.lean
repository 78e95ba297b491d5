/-! the reference's evaluator: what it asks for, what it tells -/
section Ev
def cf (f : Nat → Int32) : Nat → Int := fun k => (f (121 + k)).toInt
/-- where the evaluator stands: the row that is kept, go, goEnd, inOrders -/
def ev_st (w : ab_W) (o pk : Nat) (f : Nat → Int32) (g e io : Int32) : Prop := ∃ fs : List Value, w[o]? = some (.inr (9, fs)) ∧ fs[2]? = some (.ref pk) ∧ fs[22]? = some (.int g) ∧ fs[23]? = some (.int e) ∧ fs[25]? = some (.int io) ∧ w[pk]? = some (.inl (0, 5721, .inl f))
def evP (pk : Nat) (f : Nat → Int32) (g e io : Int32) (as : List Value) (w : ab_W) : Prop := ∀ (o : Nat) (l : Int32), as = [.ref o, .int l] → ev_st w o pk f g e io
def evR (pk : Nat) (f : Nat → Int32) (q : Nat) (e io : Int32) (as : List Value) (_ : ab_W) (_ : Option Value) (w1 : ab_W) : Prop := ∀ (o : Nat) (l : Int32), as = [.ref o, .int l] → ∃ g : Int32, g.toInt = (q : Int) ∧ ev_st w1 o pk f g e io
theorem gc_in {f : Nat → Int32} {e p : Nat} (h : p < e) : gc (cf f) e p = (f (121 + p)).toInt := by
  unfold gc cf
  rw [if_pos h]
theorem gc_out {f : Nat → Int32} {e p : Nat} (h : ¬ p < e) : gc (cf f) e p = 0 := by
  unfold gc
  rw [if_neg h]
theorem hx_sref {w : ab_W} {G : Nat → Nat} {o pk : Nat} {fs : List Value} (hw : ty_w sp_ G w) (g : w[o]? = some (.inr (9, fs))) (hG : G o = 30) (h : fs[2]? = some (.ref pk)) : G pk = 32 := by
  obtain ⟨p, h1, h2⟩ := hx_fr (k := 2) (s := 32) (hx_oq hw g hG (s := 30) rfl) rfl
  rw [h] at h1
  cases h1
  exact h2
end Ev
section Gl
variable {c : Nat → Int} {e : Nat} {o : Bool}
theorem gc_lt {p : Nat} (h : gc c e p ≠ 0) : p < e := by
  unfold gc at h
  by_cases z : p < e
  · exact z
  · rw [if_neg z] at h
    exact absurd rfl h
theorem gr_s {n b k p q : Nat} (h : gr c e o n b k p = some q) : ∃ m, n = m + 1 := by
  cases n with
  | zero => cases h
  | succ m => exact ⟨m, rfl⟩
theorem gb_split {x : Option Nat} {f : Nat → Option Nat} {q : Nat} (h : x.bind f = some q) : ∃ y, x = some y ∧ f y = some q := by
  cases x with
  | none => cases h
  | some y => exact ⟨y, rfl, h⟩
theorem gr_sum {n b p q : Nat} (h : gr c e o n b 2 p = some q) : ∃ m y, n = m + 1 ∧ gr c e o m b 1 p = some y ∧ gr c e o m b 4 y = some q := by
  obtain ⟨m, rfl⟩ := gr_s h
  obtain ⟨y, h1, h2⟩ := gb_split (show (gr c e o m b 1 p).bind (gr c e o m b 4) = some q from h)
  exact ⟨m, y, rfl, h1, h2⟩
theorem gr_term {n b p q : Nat} (h : gr c e o n b 1 p = some q) : ∃ m y, n = m + 1 ∧ gr c e o m b 0 p = some y ∧ gr c e o m b 3 y = some q := by
  obtain ⟨m, rfl⟩ := gr_s h
  obtain ⟨y, h1, h2⟩ := gb_split (show (gr c e o m b 0 p).bind (gr c e o m b 3) = some q from h)
  exact ⟨m, y, rfl, h1, h2⟩
theorem gr_both {n b p q : Nat} (h : gr c e o n b 7 p = some q) : ∃ m y, n = m + 1 ∧ gr c e o m b 6 p = some y ∧ gr c e o m b 8 y = some q := by
  obtain ⟨m, rfl⟩ := gr_s h
  obtain ⟨y, h1, h2⟩ := gb_split (show (gr c e o m b 6 p).bind (gr c e o m b 8) = some q from h)
  exact ⟨m, y, rfl, h1, h2⟩
theorem gr_test {n b p q : Nat} (h : gr c e o n b 9 p = some q) : ∃ m y, n = m + 1 ∧ gr c e o m b 7 p = some y ∧ gr c e o m b 10 y = some q := by
  obtain ⟨m, rfl⟩ := gr_s h
  obtain ⟨y, h1, h2⟩ := gb_split (show (gr c e o m b 7 p).bind (gr c e o m b 10) = some q from h)
  exact ⟨m, y, rfl, h1, h2⟩
theorem gr_sl {n b p q : Nat} (h : gr c e o n b 4 p = some q) : ((gc c e p = 143 ∨ gc c e p = 145) ∧ ∃ m y, n = m + 1 ∧ gr c e o m b 1 (p + 1) = some y ∧ gr c e o m b 4 y = some q) ∨ (¬ (gc c e p = 143 ∨ gc c e p = 145) ∧ p = q) := by
  obtain ⟨m, rfl⟩ := gr_s h
  have h : (if gc c e p = 143 ∨ gc c e p = 145 then (gr c e o m b 1 (p + 1)).bind (gr c e o m b 4) else some p) = some q := h
  by_cases z : gc c e p = 143 ∨ gc c e p = 145
  · rw [if_pos z] at h
    obtain ⟨y, h1, h2⟩ := gb_split h
    exact Or.inl ⟨z, m, y, rfl, h1, h2⟩
  · rw [if_neg z] at h
    cases h
    exact Or.inr ⟨z, rfl⟩
theorem gr_tl {n b p q : Nat} (h : gr c e o n b 3 p = some q) : ((gc c e p = 142 ∨ gc c e p = 147 ∨ gc c e p = 137) ∧ ∃ m y, n = m + 1 ∧ gr c e o m b 0 (p + 1) = some y ∧ gr c e o m b 3 y = some q) ∨ (¬ (gc c e p = 142 ∨ gc c e p = 147 ∨ gc c e p = 137) ∧ p = q) := by
  obtain ⟨m, rfl⟩ := gr_s h
  have h : (if gc c e p = 142 ∨ gc c e p = 147 ∨ gc c e p = 137 then (gr c e o m b 0 (p + 1)).bind (gr c e o m b 3) else some p) = some q := h
  by_cases z : gc c e p = 142 ∨ gc c e p = 147 ∨ gc c e p = 137
  · rw [if_pos z] at h
    obtain ⟨y, h1, h2⟩ := gb_split h
    exact Or.inl ⟨z, m, y, rfl, h1, h2⟩
  · rw [if_neg z] at h
    cases h
    exact Or.inr ⟨z, rfl⟩
theorem gr_bl {n b p q : Nat} (h : gr c e o n b 8 p = some q) : (gc c e p = 7 ∧ ∃ m y, n = m + 1 ∧ gr c e o m b 6 (p + 1) = some y ∧ gr c e o m b 8 y = some q) ∨ (¬ gc c e p = 7 ∧ p = q) := by
  obtain ⟨m, rfl⟩ := gr_s h
  have h : (if gc c e p = 7 then (gr c e o m b 6 (p + 1)).bind (gr c e o m b 8) else some p) = some q := h
  by_cases z : gc c e p = 7
  · rw [if_pos z] at h
    obtain ⟨y, h1, h2⟩ := gb_split h
    exact Or.inl ⟨z, m, y, rfl, h1, h2⟩
  · rw [if_neg z] at h
    cases h
    exact Or.inr ⟨z, rfl⟩
theorem gr_ol {n b p q : Nat} (h : gr c e o n b 10 p = some q) : (gc c e p = 6 ∧ ∃ m y, n = m + 1 ∧ gr c e o m b 7 (p + 1) = some y ∧ gr c e o m b 10 y = some q) ∨ (¬ gc c e p = 6 ∧ p = q) := by
  obtain ⟨m, rfl⟩ := gr_s h
  have h : (if gc c e p = 6 then (gr c e o m b 7 (p + 1)).bind (gr c e o m b 10) else some p) = some q := h
  by_cases z : gc c e p = 6
  · rw [if_pos z] at h
    obtain ⟨y, h1, h2⟩ := gb_split h
    exact Or.inl ⟨z, m, y, rfl, h1, h2⟩
  · rw [if_neg z] at h
    cases h
    exact Or.inr ⟨z, rfl⟩
theorem gr_plain {n b p q : Nat} (h : gr c e o n b 6 p = some q) : ∃ m, n = m + 1 ∧ ((gc c e p = 8 ∧ gr c e o m b 6 (p + 1) = some q) ∨ (¬ gc c e p = 8 ∧ gr c e o m b 5 p = some q)) := by
  obtain ⟨m, rfl⟩ := gr_s h
  have h : (if gc c e p = 8 then gr c e o m b 6 (p + 1) else gr c e o m b 5 p) = some q := h
  by_cases z : gc c e p = 8
  · rw [if_pos z] at h
    exact ⟨m, rfl, Or.inl ⟨z, h⟩⟩
  · rw [if_neg z] at h
    exact ⟨m, rfl, Or.inr ⟨z, h⟩⟩
theorem gr_pos {n b p q : Nat} (h : gr c e o n b 5 p = some q) : ∃ m, n = m + 1 ∧ ((gc c e p = 140 ∧ ∃ b1 y, b = b1 + 1 ∧ gr c e o m b1 9 (p + 1) = some y ∧ gc c e y = 141 ∧ q = y + 1) ∨ (¬ gc c e p = 140 ∧ ∃ y, gr c e o m b 2 p = some y ∧ (gc c e y = 160 ∨ gc c e y = 161 ∨ gc c e y = 162) ∧ gr c e o m b 2 (y + 1) = some q)) := by
  obtain ⟨m, rfl⟩ := gr_s h
  refine ⟨m, rfl, ?_⟩
  unfold gr at h
  by_cases z : gc c e p = 140
  · rw [if_pos z] at h
    cases b with
    | zero => cases h
    | succ b1 =>
      obtain ⟨y, h1, h2⟩ := gb_split h
      by_cases zz : gc c e y = 141
      · rw [if_pos zz] at h2
        cases h2
        exact Or.inl ⟨z, b1, y, rfl, h1, zz, rfl⟩
      · rw [if_neg zz] at h2
        cases h2
  · rw [if_neg z] at h
    obtain ⟨y, h1, h2⟩ := gb_split h
    by_cases zz : gc c e y = 160 ∨ gc c e y = 161 ∨ gc c e y = 162
    · rw [if_pos zz] at h2
      exact Or.inr ⟨z, y, h1, zz, h2⟩
    · rw [if_neg zz] at h2
      cases h2
theorem gr_part {n b p q : Nat} (h : gr c e o n b 0 p = some q) : ∃ m, n = m + 1 ∧ ((gc c e p = 191 ∧ ∃ b1 y, b = b1 + 1 ∧ gr c e o m b1 2 (p + 1) = some y ∧ gc c e y = 193 ∧ q = y + 1) ∨ (¬ gc c e p = 191 ∧ gr_leaf o (gc c e p) = true ∧ ((o = true ∧ (gc c e p = 14 ∨ gc c e p = 15) ∧ gc c e (p + 1) = 50 ∧ q = p + 2) ∨ (¬ (o = true ∧ (gc c e p = 14 ∨ gc c e p = 15)) ∧ q = p + 1)))) := by
  obtain ⟨m, rfl⟩ := gr_s h
  refine ⟨m, rfl, ?_⟩
  unfold gr at h
  by_cases z : gc c e p = 191
  · rw [if_pos z] at h
    cases b with
    | zero => cases h
    | succ b1 =>
      obtain ⟨y, h1, h2⟩ := gb_split h
      by_cases zz : gc c e y = 193
      · rw [if_pos zz] at h2
        cases h2
        exact Or.inl ⟨z, b1, y, rfl, h1, zz, rfl⟩
      · rw [if_neg zz] at h2
        cases h2
  · rw [if_neg z] at h
    by_cases y : gr_leaf o (gc c e p) = true
    · rw [if_pos y] at h
      by_cases x : o = true ∧ (gc c e p = 14 ∨ gc c e p = 15)
      · rw [if_pos x] at h
        by_cases u : gc c e (p + 1) = 50
        · rw [if_pos u] at h
          cases h
          exact Or.inr ⟨z, y, Or.inl ⟨x.1, x.2, u, rfl⟩⟩
        · rw [if_neg u] at h
          cases h
      · rw [if_neg x] at h
        cases h
        exact Or.inr ⟨z, y, Or.inr ⟨x, rfl⟩⟩
    · rw [if_neg y] at h
      cases h
/-- a walk goes on, and stays within the text -/
theorem gr_le : ∀ {n b k p q : Nat}, gr c e o n b k p = some q → p ≤ e → p ≤ q ∧ q ≤ e := by
  intro n
  induction n with
  | zero => intro b k p q h; cases h
  | succ n ih =>
    intro b k p q h hp
    match k, h with
    | 0, h =>
      obtain ⟨m, em, h⟩ := gr_part h
      cases em
      rcases h with ⟨z, b1, y, rfl, h1, h2, rfl⟩ | ⟨z, y, h⟩
      · have l1 := gc_lt (c := c) (e := e) (p := p) (by rw [z]; decide)
        have l2 := gc_lt (c := c) (e := e) (p := y) (by rw [h2]; decide)
        have := ih h1 (by omega)
        omega
      · have l1 : p < e := gc_lt (c := c) (fun w => by rw [w] at y; revert y; cases o <;> decide)
        rcases h with ⟨_, _, h3, rfl⟩ | ⟨_, rfl⟩
        · have l2 := gc_lt (c := c) (e := e) (p := p + 1) (by rw [h3]; decide)
          omega
        · omega
    | 1, h =>
      obtain ⟨m, y, em, h1, h2⟩ := gr_term h
      cases em
      have a := ih h1 hp
      have b := ih h2 a.2
      omega
    | 2, h =>
      obtain ⟨m, y, em, h1, h2⟩ := gr_sum h
      cases em
      have a := ih h1 hp
      have b := ih h2 a.2
      omega
    | 3, h =>
      rcases gr_tl h with ⟨z, m, y, em, h1, h2⟩ | ⟨_, rfl⟩
      · cases em
        have l1 := gc_lt (c := c) (e := e) (p := p) (by omega)
        have a := ih h1 (by omega)
        have b := ih h2 a.2
        omega
      · omega
    | 4, h =>
      rcases gr_sl h with ⟨z, m, y, em, h1, h2⟩ | ⟨_, rfl⟩
      · cases em
        have l1 := gc_lt (c := c) (e := e) (p := p) (by omega)
        have a := ih h1 (by omega)
        have b := ih h2 a.2
        omega
      · omega
    | 5, h =>
      obtain ⟨m, em, h⟩ := gr_pos h
      cases em
      rcases h with ⟨z, b1, y, rfl, h1, h2, rfl⟩ | ⟨z, y, h1, h2, h3⟩
      · have l1 := gc_lt (c := c) (e := e) (p := p) (by omega)
        have l2 := gc_lt (c := c) (e := e) (p := y) (by omega)
        have := ih h1 (by omega)
        omega
      · have a := ih h1 hp
        have l2 := gc_lt (c := c) (e := e) (p := y) (by omega)
        have b := ih h3 (by omega)
        omega
    | 6, h =>
      obtain ⟨m, em, h⟩ := gr_plain h
      cases em
      rcases h with ⟨z, h1⟩ | ⟨_, h1⟩
      · have l1 := gc_lt (c := c) (e := e) (p := p) (by omega)
        have := ih h1 (by omega)
        omega
      · exact ih h1 hp
    | 7, h =>
      obtain ⟨m, y, em, h1, h2⟩ := gr_both h
      cases em
      have a := ih h1 hp
      have b := ih h2 a.2
      omega
    | 8, h =>
      rcases gr_bl h with ⟨z, m, y, em, h1, h2⟩ | ⟨_, rfl⟩
      · cases em
        have l1 := gc_lt (c := c) (e := e) (p := p) (by omega)
        have a := ih h1 (by omega)
        have b := ih h2 a.2
        omega
      · omega
    | 9, h =>
      obtain ⟨m, y, em, h1, h2⟩ := gr_test h
      cases em
      have a := ih h1 hp
      have b := ih h2 a.2
      omega
    | k + 10, h =>
      have h' : gr c e o (n + 1) b 10 p = some q := h
      rcases gr_ol h' with ⟨z, m, y, em, h1, h2⟩ | ⟨_, rfl⟩
      · cases em
        have l1 := gc_lt (c := c) (e := e) (p := p) (by omega)
        have a := ih h1 (by omega)
        have b := ih h2 a.2
        omega
      · omega
end Gl
