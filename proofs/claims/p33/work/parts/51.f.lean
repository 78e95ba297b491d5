/-! what no type says of the class -/
section Hz2
variable {G : Nat → Nat}
theorem hx_rr {s : Nat} {v : Option Value} (h : ck_res G (some (2, (s : Int), 1)) v) : (∃ k, v = some (.ref k) ∧ G k = s) ∨ v = some .null := by
  cases v with
  | none => exact h.elim
  | some x =>
    rcases ty_ref h rfl with ⟨k, h1, h2, h3⟩ | ⟨h1, _⟩
    · subst h1
      have h3 : (G k : Int) = (s : Int) := h3
      exact Or.inl ⟨k, rfl, by omega⟩
    · subst h1
      exact Or.inr rfl
theorem hx_mkw {a wf : Nat} {as : List Value} {z x : Int32} {lo hi : Int} (hx : as[a]? = some (.int x)) (hwf : ck_w wf = (lo, hi)) (h : z.toInt ≠ 0 → lo ≤ x.toInt ∧ x.toInt ≤ hi) : ck_wit (a + 1) wf as (some (.int z)) := by
  intro y hy hn
  cases hy
  refine ⟨x, hx, ?_, ?_⟩
  · rw [hwf]; exact (h hn).1
  · rw [hwf]; exact (h hn).2
end Hz2
section Fh
variable {G : Nat → Nat} {F : ab_W → Prop}
/-- the reader: a sign stands on the tape -/
def FT (G : Nat → Nat) (w : ab_W) : Prop := ∀ (k ci : Nat) (fs : List Value) (x y : Int32), G k = 8 → w[k]? = some (.inr (ci, fs)) → fs[5]? = some (.int x) → fs[3]? = some (.int y) → x.toInt = 3 → y.toInt ≤ 399
/-- the past: in each of its rows, who walks from where, and how many groups -/
def FP (G : Nat → Nat) (w : ab_W) : Prop := ∀ (k : Nat) (f : Nat → Int32), G k = 19 → w[k]? = some (.inl (0, 1224, .inl f)) → ∀ s, s < 17 → (∀ i, 20 ≤ i → i < 36 → 0 ≤ (f (72 * s + i)).toInt ∧ (f (72 * s + i)).toInt ≤ 9) ∧ 0 ≤ (f (72 * s + 68)).toInt ∧ (f (72 * s + 68)).toInt ≤ 16
theorem FT_same {w w' : ab_W} (h : ty_same G [(8, 3), (8, 5)] w w') (hF : FT G w) : FT G w' := by
  intro k ci fs x y hk hc hx hy e
  have m5 : (G k, 5) ∈ [(8, 3), (8, 5)] := by rw [hk]; decide
  have m3 : (G k, 3) ∈ [(8, 3), (8, 5)] := by rw [hk]; decide
  have e5 := (h.2 k 5 m5).2
  have e3 := (h.2 k 3 m3).2
  rw [hc] at e5 e3
  have e5 : fs[5]? = (w[k]?).bind (ty_fd 5) := e5
  have e3 : fs[3]? = (w[k]?).bind (ty_fd 3) := e3
  rw [hx] at e5
  rw [hy] at e3
  cases hw : w[k]? with
  | none => rw [hw] at e5; cases e5
  | some c =>
    rw [hw] at e5 e3
    rcases c with c | ⟨ci', fs'⟩
    · cases e5
    · exact hF k ci' fs' x y hk hw e5.symm e3.symm e
theorem FP_same {w w' : ab_W} (h : ty_same G [(19, 999)] w w') (hF : FP G w) : FP G w' := by
  intro k f hk hc
  have m : (G k, 999) ∈ [(19, 999)] := by rw [hk]; decide
  have e := (h.2 k 999 m).1 rfl
  exact hF k f hk (by rw [← e]; exact hc)
theorem FT_put {w w2 : ab_W} {o ci : Nat} {fs2 : List Value} (hF : FT G w) (g2 : w2[o]? = some (.inr (ci, fs2))) (oth : ∀ j, j ≠ o → w2[j]? = w[j]?) (h : ∀ x y : Int32, fs2[5]? = some (.int x) → fs2[3]? = some (.int y) → x.toInt = 3 → y.toInt ≤ 399) : FT G w2 := by
  intro k cj fs x y hk hc hx hy e
  by_cases z : k = o
  · subst z
    rw [g2] at hc
    cases hc
    exact h x y hx hy e
  · rw [oth k z] at hc
    exact hF k cj fs x y hk hc hx hy e
theorem FP_put {w w2 : ab_W} {o : Nat} {f2 : Nat → Int32} (hF : FP G w) (g2 : w2[o]? = some (.inl (0, 1224, .inl f2))) (oth : ∀ j, j ≠ o → w2[j]? = w[j]?) (h : ∀ s, s < 17 → (∀ i, 20 ≤ i → i < 36 → 0 ≤ (f2 (72 * s + i)).toInt ∧ (f2 (72 * s + i)).toInt ≤ 9) ∧ 0 ≤ (f2 (72 * s + 68)).toInt ∧ (f2 (72 * s + 68)).toInt ≤ 16) : FP G w2 := by
  intro k f hk hc
  by_cases z : k = o
  · subst z
    rw [g2] at hc
    cases hc
    exact h
  · rw [oth k z] at hc
    exact hF k f hk hc
/-- pr_ without the reader's, without the past's -/
def pr5 : List (Nat × Nat) := pr_.filter (fun q => !(Nat.beq q.1 8))
def pr4 : List (Nat × Nat) := pr_.filter (fun q => !(Nat.beq q.1 19))
def F5 (G : Nat → Nat) (F : ab_W → Prop) (w : ab_W) : Prop := FT G w ∧ F w
def F4 (G : Nat → Nat) (F : ab_W → Prop) (w : ab_W) : Prop := FP G w ∧ F w
theorem F5_same (hF : ∀ w w', ty_same G pr5 w w' → F w → F w') : ∀ w w', ty_same G pr_ w w' → F5 G F w → F5 G F w' := fun _ _ h hf => ⟨FT_same (ty_same_sub h (by decide)) hf.1, hF _ _ (ty_same_sub h (by decide)) hf.2⟩
theorem F4_same (hF : ∀ w w', ty_same G pr4 w w' → F w → F w') : ∀ w w', ty_same G pr_ w w' → F4 G F w → F4 G F w' := fun _ _ h hf => ⟨FP_same (ty_same_sub h (by decide)) hf.1, hF _ _ (ty_same_sub h (by decide)) hf.2⟩
end Fh
