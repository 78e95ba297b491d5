/-! strings: length, charAt -/
section Hs
variable {ro : ab_R} {C : Nat → List Value → ab_W → ab_O → Prop} {own : Nat} {ret : Option FieldType} {code : ab_C} {Q : ab_O → Prop} {pc l t0 : Nat} {L : ab_L} {r : List Value} {w : ab_W}
theorem hx_sl {o ix : Nat} {t : List Int32} (hc : code pc = some (.invokevirtual ix, t0)) (hl : l = pc + 3) (hv : ab_lk (ab_vT own) ix = some 0) (ht : ab_tx o = some t) (hn : t.length < 100) (hr : Nat.ble (ab_sum r) 8 = true) (k : ∀ z : Int32, z.toInt = (t.length : Int) → ab_wp ro C own false ret code Q (l, L, .int z :: r, w, 0, 0)) : ab_wp ro C own false ret code Q (pc, L, .ref o :: r, w, 0, 0) := by
  subst hl
  refine ax_sw (ps := []) (x := (L, .int (Int32.ofNat t.length) :: r, w, 0, 0)) (pc + 3) hc ?_ rfl trivial (k _ (Int32.toInt_ofNat_of_lt (by omega)))
  simp only [ab_nx, hv, ht, hr, cond_true]
theorem hx_sc {o ix : Nat} {i : Int32} {t : List Int32} (hc : code pc = some (.invokevirtual ix, t0)) (hl : l = pc + 3) (hv : ab_lk (ab_vT own) ix = some 1) (ht : ab_tx o = some t) (h1 : 0 ≤ i.toInt) (h2 : i.toInt < (t.length : Nat)) (hr : Nat.ble (ab_sum r) 8 = true) (k : ∀ z : Int32, ab_wp ro C own false ret code Q (l, L, .int z :: r, w, 0, 0)) : ab_wp ro C own false ret code Q (pc, L, .int i :: .ref o :: r, w, 0, 0) := by
  subst hl
  refine ax_sw (ps := [vp_in i t.length]) (x := (L, .int (ab_chr (t.getD i.toNatClampNeg 0)) :: r, w, 0, 0)) (pc + 3) hc ?_ rfl ⟨hx_in h1 h2, trivial⟩ (k _)
  simp only [ab_nx, hv, ht, hr, cond_true]
end Hs
theorem hx_txs : ∀ k, k < 27 → (match ab_tx (2000000 + k) with
  | some t => decide (t.length < 100)
  | none => false) = true := by decide +kernel
theorem hx_tx {G : Nat → Nat} {o : Nat} (h : ty_v G (3, 2000000, 2000026) (.ref o)) : ∃ t, ab_tx o = some t ∧ t.length < 100 := by
  have h2 : (2000000 : Int) ≤ (o : Int) ∧ (o : Int) ≤ 2000026 := by
    rcases h with h | h
    · exact absurd h.1 (by decide)
    · exact ⟨h.2.2.1, h.2.2.2⟩
  obtain ⟨k, rfl⟩ : ∃ k, o = 2000000 + k := ⟨o - 2000000, by omega⟩
  have h3 := hx_txs k (by omega)
  cases h4 : ab_tx (2000000 + k) with
  | none => rw [h4] at h3; cases h3
  | some t =>
    rw [h4] at h3
    exact ⟨t, rfl, of_decide_eq_true h3⟩
