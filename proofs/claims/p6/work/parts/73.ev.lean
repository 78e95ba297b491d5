/-! the reference's evaluator: what it asks for, what it tells -/
section Ev
def cf (f : Nat → Int32) : Nat → Int := fun k => (f (121 + k)).toInt
/-- where the evaluator stands: the row that is kept, go, goEnd, inOrders -/
def ev_st (w : ab_W) (o pk : Nat) (f : Nat → Int32) (g e io : Int32) : Prop := ∃ fs : List Value, w[o]? = some (.inr (9, fs)) ∧ fs[2]? = some (.ref pk) ∧ fs[22]? = some (.int g) ∧ fs[23]? = some (.int e) ∧ fs[25]? = some (.int io) ∧ w[pk]? = some (.inl (0, 5721, .inl f))
def evP (pk : Nat) (f : Nat → Int32) (g e io : Int32) (as : List Value) (w : ab_W) : Prop := ∀ (o : Nat) (l : Int32), as = [.ref o, .int l] → ev_st w o pk f g e io
def evR (pk : Nat) (f : Nat → Int32) (q : Nat) (e io : Int32) (as : List Value) (_ : ab_W) (_ : Option Value) (w1 : ab_W) : Prop := ∀ (o : Nat) (l : Int32), as = [.ref o, .int l] → ∃ g : Int32, g.toInt = (q : Int) ∧ ev_st w1 o pk f g e io
theorem gc_in {f : Nat → Int32} {e p : Nat} (h : p < e) : gc (cf f) e p = (f (121 + p)).toInt := by
  unfold gc cf
  rw [if_pos h]
theorem gc_out {f : Nat → Int32} {e p : Nat} (h : ¬ p < e) : gc (cf f) e p = 0 := by
  unfold gc
  rw [if_neg h]
theorem hx_sref {w : ab_W} {G : Nat → Nat} {o pk : Nat} {fs : List Value} (hw : ty_w sp_ G w) (g : w[o]? = some (.inr (9, fs))) (hG : G o = 30) (h : fs[2]? = some (.ref pk)) : G pk = 32 := by
  obtain ⟨p, h1, h2⟩ := hx_fr (k := 2) (s := 32) (hx_oq hw g hG (s := 30) rfl) rfl
  rw [h] at h1
  cases h1
  exact h2
end Ev
