/-! what no type says of the class -/
section Fh
variable {G : Nat → Nat} {F : ab_W → Prop}
/-- the reader: a sign stands on the tape -/
def FT (G : Nat → Nat) (w : ab_W) : Prop := ∀ (k ci : Nat) (fs : List Value) (x y : Int32), G k = 8 → w[k]? = some (.inr (ci, fs)) → fs[5]? = some (.int x) → fs[3]? = some (.int y) → x.toInt = 3 → y.toInt ≤ 399
/-- the past: in each of its rows, who walks from where, and how many groups -/
def FP (G : Nat → Nat) (w : ab_W) : Prop := ∀ (k : Nat) (f : Nat → Int32), G k = 19 → w[k]? = some (.inl (0, 1224, .inl f)) → ∀ s, s < 17 → (∀ i, 20 ≤ i → i < 36 → 0 ≤ (f (72 * s + i)).toInt ∧ (f (72 * s + i)).toInt ≤ 9) ∧ 0 ≤ (f (72 * s + 68)).toInt ∧ (f (72 * s + 68)).toInt ≤ 16
theorem FT_same {w w' : ab_W} (h : ty_same G [(8, 3), (8, 5)] w w') (hF : FT G w) : FT G w' := by
  intro k ci fs x y hk hc hx hy e
  have m5 : (G k, 5) ∈ [(8, 3), (8, 5)] := by rw [hk]; decide
  have m3 : (G k, 3) ∈ [(8, 3), (8, 5)] := by rw [hk]; decide
  have e5 := (h.2 k 5 m5).2
  have e3 := (h.2 k 3 m3).2
  rw [hc] at e5 e3
  have e5 : fs[5]? = (w[k]?).bind (ty_fd 5) := e5
  have e3 : fs[3]? = (w[k]?).bind (ty_fd 3) := e3
  rw [hx] at e5
  rw [hy] at e3
  cases hw : w[k]? with
  | none => rw [hw] at e5; cases e5
  | some c =>
    rw [hw] at e5 e3
    rcases c with c | ⟨ci', fs'⟩
    · cases e5
    · exact hF k ci' fs' x y hk hw e5.symm e3.symm e
theorem FP_same {w w' : ab_W} (h : ty_same G [(19, 999)] w w') (hF : FP G w) : FP G w' := by
  intro k f hk hc
  have m : (G k, 999) ∈ [(19, 999)] := by rw [hk]; decide
  have e := (h.2 k 999 m).1 rfl
  exact hF k f hk (by rw [← e]; exact hc)
/-- pr_ without the reader's, without the past's -/
def pr5 : List (Nat × Nat) := pr_.filter (fun q => !(Nat.beq q.1 8))
def pr4 : List (Nat × Nat) := pr_.filter (fun q => !(Nat.beq q.1 19))
def F5 (G : Nat → Nat) (F : ab_W → Prop) (w : ab_W) : Prop := FT G w ∧ F w
def F4 (G : Nat → Nat) (F : ab_W → Prop) (w : ab_W) : Prop := FP G w ∧ F w
theorem F5_same (hF : ∀ w w', ty_same G pr5 w w' → F w → F w') : ∀ w w', ty_same G pr_ w w' → F5 G F w → F5 G F w' := fun _ _ h hf => ⟨FT_same (ty_same_sub h (by decide)) hf.1, hF _ _ (ty_same_sub h (by decide)) hf.2⟩
theorem F4_same (hF : ∀ w w', ty_same G pr4 w w' → F w → F w') : ∀ w w', ty_same G pr_ w w' → F4 G F w → F4 G F w' := fun _ _ h hf => ⟨FP_same (ty_same_sub h (by decide)) hf.1, hF _ _ (ty_same_sub h (by decide)) hf.2⟩
end Fh
