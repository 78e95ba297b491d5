/-! the reference's parser: where it stands, what holds of a text that is split -/
def cd (f : Nat → Int32) : Nat → Int := fun k => (f k).toInt
def pa_st (w : ab_W) (o pc pp : Nat) (fc fp : Nat → Int32) (tk e bd io fw lw : Int32) : Prop := ∃ fs : List Value, w[o]? = some (.inr (9, fs)) ∧ fs[15]? = some (.ref pc) ∧ fs[17]? = some (.ref pp) ∧ fs[19]? = some (.int tk) ∧ fs[18]? = some (.int e) ∧ fs[21]? = some (.int bd) ∧ fs[10]? = some (.int io) ∧ fs[8]? = some (.int fw) ∧ fs[9]? = some (.int lw) ∧ w[pc]? = some (.inl (0, 401, .inl fc)) ∧ w[pp]? = some (.inl (0, 401, .inl fp))
def pa_ok (fc fp : Nat → Int32) (e io fw lw : Int32) : Prop := (0 ≤ e.toInt ∧ e.toInt ≤ 400) ∧ (fc e.toInt.toNat).toInt = 0 ∧ (∀ j : Nat, (j : Int) ≤ e.toInt → 0 ≤ (fp j).toInt) ∧ (io.toInt = 0 → fw.toInt = 9 ∧ lw.toInt = 16) ∧ (io.toInt ≠ 0 → fw.toInt = 14 ∧ lw.toInt = 20)
def paP (pc pp : Nat) (fc fp : Nat → Int32) (tk e bd io fw lw : Int32) (as : List Value) (w : ab_W) : Prop := ∀ o : Nat, as[0]? = some (.ref o) → pa_st w o pc pp fc fp tk e bd io fw lw
def paPd (pc pp : Nat) (fc fp : Nat → Int32) (tk e bd io fw lw : Int32) (b : Nat) (as : List Value) (w : ab_W) : Prop := ∀ (o : Nat) (l : Int32), as = [.ref o, .int l] → pa_st w o pc pp fc fp tk e bd io fw lw ∧ l.toInt + (b : Int) = 8
def paR (pc pp : Nat) (fc fp : Nat → Int32) (tk e bd io fw lw : Int32) (X : Int32 → Prop) (as : List Value) (_ : ab_W) (_ : Option Value) (w1 : ab_W) : Prop := ∀ o : Nat, as[0]? = some (.ref o) → ∃ tk' bd' : Int32, pa_st w1 o pc pp fc fp tk' e bd' io fw lw ∧ (tk.toInt ≤ tk'.toInt ∧ tk'.toInt ≤ e.toInt) ∧ (bd'.toInt = -1 → bd.toInt = -1 ∧ X tk')
def ReK (ro : ab_R) (G : Nat → Nat) (F : ab_W → Prop) (fz : List (Nat × Nat)) (b K j off : Nat) : Prop := ∀ (pc pp : Nat) (fc fp : Nat → Int32) (tk e bd io fw lw : Int32) (D : Nat), pa_ok fc fp e io fw lw → (0 ≤ tk.toInt ∧ tk.toInt ≤ e.toInt) → 6 * b + off ≤ D → hx_ct ro sp_ G (F9 G F) fz (ab_Ev ro ab_codes D) j [(2, 30, 0), (0, 0, 8)] none (paPd pc pp fc fp tk e bd io fw lw b) (paR pc pp fc fp tk e bd io fw lw (fun t => GP (cd fc) e.toInt.toNat (decide (io.toInt ≠ 0)) b K tk.toInt.toNat t.toInt.toNat))
section Pa
variable {fc fp : Nat → Int32} {e io fw lw tk : Int32}
theorem pa_gc (h : pa_ok fc fp e io fw lw) (ht : 0 ≤ tk.toInt ∧ tk.toInt ≤ e.toInt) : gc (cd fc) e.toInt.toNat tk.toInt.toNat = (fc tk.toInt.toNat).toInt := by
  unfold gc cd
  by_cases z : tk.toInt.toNat < e.toInt.toNat
  · rw [if_pos z]
  · rw [if_neg z, show tk.toInt.toNat = e.toInt.toNat by omega, h.2.1]
theorem pa_fw (h : pa_ok fc fp e io fw lw) : 9 ≤ fw.toInt ∧ fw.toInt ≤ 14 ∧ 16 ≤ lw.toInt ∧ lw.toInt ≤ 20 := by
  by_cases z : io.toInt = 0
  · have := h.2.2.2.1 z
    omega
  · have := h.2.2.2.2 z
    omega
theorem pa_leaf (h : pa_ok fc fp e io fw lw) {v : Int} (hv : v = 50 ∨ (fw.toInt ≤ v ∧ v ≤ lw.toInt)) : gr_leaf (decide (io.toInt ≠ 0)) v = true := by
  unfold gr_leaf
  by_cases z : io.toInt = 0
  · have h1 := h.2.2.2.1 z
    have hd : decide (io.toInt ≠ 0) = false := decide_eq_false (fun y => y z)
    rw [hd]
    simp only [cond_false, Bool.or_eq_true, Bool.and_eq_true, decide_eq_true_eq]
    omega
  · have h1 := h.2.2.2.2 z
    have hd : decide (io.toInt ≠ 0) = true := decide_eq_true z
    rw [hd]
    simp only [cond_true, Bool.or_eq_true, Bool.and_eq_true, decide_eq_true_eq]
    omega
theorem pa_r15 {w : ab_W} {G : Nat → Nat} {o pc : Nat} {fs : List Value} (hw : ty_w sp_ G w) (g : w[o]? = some (.inr (9, fs))) (hG : G o = 30) (h : fs[15]? = some (.ref pc)) : G pc = 39 := by
  obtain ⟨p, h1, h2⟩ := hx_fr (k := 15) (s := 39) (hx_oq hw g hG (s := 30) rfl) rfl
  rw [h] at h1
  cases h1
  exact h2
theorem pa_r17 {w : ab_W} {G : Nat → Nat} {o pc : Nat} {fs : List Value} (hw : ty_w sp_ G w) (g : w[o]? = some (.inr (9, fs))) (hG : G o = 30) (h : fs[17]? = some (.ref pc)) : G pc = 41 := by
  obtain ⟨p, h1, h2⟩ := hx_fr (k := 17) (s := 41) (hx_oq hw g hG (s := 30) rfl) rfl
  rw [h] at h1
  cases h1
  exact h2
end Pa
section Go
variable {c : Nat → Int} {e p q y z : Nat}
/-- an order's parts -/
def goA (c : Nat → Int) (e p y : Nat) : Prop := (gc c e p = 22 ∧ y = p + 1) ∨ (gc c e p = 21 ∧ GP c e true 8 2 (p + 1) y) ∨ (¬ gc c e p = 22 ∧ ¬ gc c e p = 21 ∧ ∃ x, GP c e true 8 2 (p + 1) x ∧ GP c e true 8 2 (x + 1) y)
def goB (c : Nat → Int) (e y z : Nat) : Prop := (gc c e y = 27 ∧ gc c e (y + 1) = 50 ∧ z = y + 2) ∨ (¬ gc c e y = 27 ∧ z = y)
def goC (o : Bool) (c : Nat → Int) (e z q : Nat) : Prop := (gc c e z = 5 ∧ GP c e o 8 9 (z + 1) q) ∨ (¬ gc c e z = 5 ∧ q = z)
theorem goC_n {o : Bool} (h : goC o c e z q) : ∃ n, ∀ m, n ≤ m → (if gc c e z = 5 then gr c e o m 8 9 (z + 1) else some z) = some q := by
  rcases h with ⟨h1, n, h2⟩ | ⟨h1, rfl⟩
  · exact ⟨n, fun m hm => by rw [if_pos h1]; exact gr_mono h2 (by decide) hm⟩
  · exact ⟨0, fun m _ => by rw [if_neg h1]⟩
theorem gor_i (hA : goA c e p y) (hB : goB c e y z) (hC : goC true c e z q) : ∃ n, gor c e n p = some q := by
  obtain ⟨n3, h3⟩ := goC_n hC
  have h2 : (if gc c e y = 27 then (if gc c e (y + 1) = 50 then some (y + 2) else none) else some y) = some z := by
    rcases hB with ⟨b1, b2, rfl⟩ | ⟨b1, rfl⟩
    · rw [if_pos b1, if_pos b2]
    · rw [if_neg b1]
  have h1 : ∃ n, ∀ m, n ≤ m → (if gc c e p = 22 then some (p + 1) else if gc c e p = 21 then gr c e true m 8 2 (p + 1) else (gr c e true m 8 2 (p + 1)).bind (fun y => gr c e true m 8 2 (y + 1))) = some y := by
    rcases hA with ⟨a1, rfl⟩ | ⟨a1, n, a2⟩ | ⟨a1, a2, x, a3, a4⟩
    · exact ⟨0, fun m _ => by rw [if_pos a1]⟩
    · exact ⟨n, fun m hm => by rw [if_neg (by omega), if_pos a1]; exact gr_mono a2 (by decide) hm⟩
    · obtain ⟨n, a5, a6⟩ := gp2 a3 a4 (by decide) (by decide)
      exact ⟨n, fun m hm => by rw [if_neg a1, if_neg a2, gr_mono a5 (by decide) hm]; exact gr_mono a6 (by decide) hm⟩
  obtain ⟨n1, h1⟩ := h1
  refine ⟨n1 + n3, ?_⟩
  unfold gor
  rw [h1 _ (by omega)]
  show ((if gc c e y = 27 then (if gc c e (y + 1) = 50 then some (y + 2) else none) else some y).bind (fun z => if gc c e z = 5 then gr c e true (n1 + n3) 8 9 (z + 1) else some z)) = some q
  rw [h2]
  exact h3 _ (by omega)
theorem gcl_i (hp : p < e) (hA : (gc c e p = 4 ∧ y = p + 1) ∨ (¬ gc c e p = 4 ∧ GP c e false 8 2 (p + 1) y)) (hC : goC false c e y q) : ∃ n, gcl c e n p = some q := by
  obtain ⟨n3, h3⟩ := goC_n hC
  have ec : gc c e p = c p := by
    unfold gc
    rw [if_pos hp]
  rw [ec] at hA
  have h1 : ∃ n, ∀ m, n ≤ m → (if c p = 4 then some (p + 1) else gr c e false m 8 2 (p + 1)) = some y := by
    rcases hA with ⟨a1, rfl⟩ | ⟨a1, n, a2⟩
    · exact ⟨0, fun m _ => by rw [if_pos a1]⟩
    · exact ⟨n, fun m hm => by rw [if_neg a1]; exact gr_mono a2 (by decide) hm⟩
  obtain ⟨n1, h1⟩ := h1
  refine ⟨n1 + n3, ?_⟩
  unfold gcl
  rw [h1 _ (by omega)]
  exact h3 _ (by omega)
end Go
