/-! long numbers; a law's clauses -/
section Hl
variable {ro : ab_R} {C : Nat → List Value → ab_W → ab_O → Prop} {own : Nat} {ret : Option FieldType} {code : ab_C} {Q : ab_O → Prop} {pc l t : Nat} {L : ab_L} {r : List Value} {w : ab_W}
theorem hx_i2l {x : Int32} (hc : code pc = some (.i2l, t)) (hl : l = pc + 1) (k : ∀ z : Int64, z.toInt = x.toInt → ab_wp ro C own false ret code Q (l, L, .long z :: r, w, 0, 0)) : ab_wp ro C own false ret code Q (pc, L, .int x :: r, w, 0, 0) := by
  subst hl
  exact ax_sw (ps := []) (x := (L, .long x.toInt64 :: r, w, 0, 0)) (pc + 1) hc rfl rfl trivial (k _ (Int32.toInt_toInt64 x))
theorem hx_l2i {x : Int64} (hc : code pc = some (.l2i, t)) (hl : l = pc + 1) (h1 : -2147483648 ≤ x.toInt) (h2 : x.toInt ≤ 2147483647) (k : ∀ z : Int32, z.toInt = x.toInt → ab_wp ro C own false ret code Q (l, L, .int z :: r, w, 0, 0)) : ab_wp ro C own false ret code Q (pc, L, .long x :: r, w, 0, 0) := by
  subst hl
  exact ax_sw (ps := []) (x := (L, .int x.toInt32 :: r, w, 0, 0)) (pc + 1) hc rfl rfl trivial (k _ (by rw [Int64.toInt_toInt32, ck_bmod h1 h2]))
theorem hx_ladd {x y : Int64} (hc : code pc = some (.ladd, t)) (hl : l = pc + 1) (h1 : -9223372036854775808 ≤ x.toInt + y.toInt) (h2 : x.toInt + y.toInt ≤ 9223372036854775807) (k : ∀ z : Int64, z.toInt = x.toInt + y.toInt → ab_wp ro C own false ret code Q (l, L, .long z :: r, w, 0, 0)) : ab_wp ro C own false ret code Q (pc, L, .long y :: .long x :: r, w, 0, 0) := by
  subst hl
  exact ax_sw (ps := []) (x := (L, .long (x + y) :: r, w, 0, 0)) (pc + 1) hc rfl rfl trivial (k _ (by rw [Int64.toInt_add, ck_lbmod h1 h2]))
theorem hx_lmul {x y : Int64} {m : Int} (hc : code pc = some (.lmul, t)) (hl : l = pc + 1) (hm : x.toInt * y.toInt = m) (h1 : -9223372036854775808 ≤ m) (h2 : m ≤ 9223372036854775807) (k : ∀ z : Int64, z.toInt = m → ab_wp ro C own false ret code Q (l, L, .long z :: r, w, 0, 0)) : ab_wp ro C own false ret code Q (pc, L, .long y :: .long x :: r, w, 0, 0) := by
  subst hl
  exact ax_sw (ps := []) (x := (L, .long (x * y) :: r, w, 0, 0)) (pc + 1) hc rfl rfl trivial (k _ (by rw [Int64.toInt_mul, hm, ck_lbmod h1 h2]))
theorem hx_lrem {x y : Int64} (hc : code pc = some (.lrem, t)) (hl : l = pc + 1) (hx : 0 ≤ x.toInt) (hy : 0 < y.toInt) (k : ∀ z : Int64, 0 ≤ z.toInt → z.toInt < y.toInt → z.toInt = x.toInt % y.toInt → ab_wp ro C own false ret code Q (l, L, .long z :: r, w, 0, 0)) : ab_wp ro C own false ret code Q (pc, L, .long y :: .long x :: r, w, 0, 0) := by
  subst hl
  have h : ¬ y = 0 := fun z => by rw [z] at hy; exact absurd hy (by decide)
  have bx : x.toInt ≤ 9223372036854775807 := by have := Int64.toInt_lt x; omega
  have hq0 : 0 ≤ x.toInt / y.toInt := Int.ediv_nonneg hx (by omega)
  have hm : x.toInt % y.toInt + y.toInt * (x.toInt / y.toInt) = x.toInt := Int.emod_add_mul_ediv _ _
  have hm0 : 0 ≤ x.toInt % y.toInt := Int.emod_nonneg _ (by omega)
  have hm1 : x.toInt % y.toInt < y.toInt := Int.emod_lt_of_pos _ hy
  have hq1 : x.toInt / y.toInt ≤ x.toInt := Int.ediv_le_self _ hx
  have hp0 := Int.mul_nonneg (show 0 ≤ y.toInt by omega) hq0
  have e1 : (x / y).toInt = x.toInt / y.toInt := by
    rw [Int64.toInt_div, Int.tdiv_eq_ediv_of_nonneg hx, ck_lbmod (by omega) (by omega)]
  have e0 : x.toInt / y.toInt * y.toInt = x.toInt - x.toInt % y.toInt := by rw [Int.mul_comm]; omega
  have e2 : (x / y * y).toInt = x.toInt - x.toInt % y.toInt := by
    rw [Int64.toInt_mul, e1, e0, ck_lbmod (by omega) (by omega)]
  have e3 : (x - x / y * y).toInt = x.toInt % y.toInt := by
    rw [Int64.toInt_sub, e2, ck_lbmod (by omega) (by omega)]
    omega
  exact ax_sw (ps := [¬ y = 0]) (x := (L, .long (x - x / y * y) :: r, w, 0, 0)) (pc + 1) hc rfl rfl ⟨h, trivial⟩ (k _ (by omega) (by omega) e3)
end Hl
theorem gl_in {c : Nat → Int} {e n m p : Nat} (h : glaw c e n m p) (hp : p < e) : ∃ m1 y q, m = m1 + 1 ∧ glaw c e n m1 (q + 1) ∧ ((gc c e p = 4 ∧ y = p + 1) ∨ (¬ gc c e p = 4 ∧ gr c e false n 8 2 (p + 1) = some y)) ∧ ((gc c e y = 5 ∧ gr c e false n 8 9 (y + 1) = some q) ∨ (¬ gc c e y = 5 ∧ q = y)) := by
  cases m with
  | zero => exact absurd h (fun z => z)
  | succ m1 =>
    unfold glaw at h
    rw [if_pos hp] at h
    obtain ⟨q, h1, h2, h3⟩ := h
    unfold gcl at h1
    obtain ⟨y, h4, h5⟩ := gb_split h1
    refine ⟨m1, y, q, rfl, h3, ?_, ?_⟩
    · have e1 : gc c e p = c p := by
        unfold gc
        rw [if_pos hp]
      rw [e1]
      by_cases z : c p = 4
      · rw [if_pos z] at h4
        cases h4
        exact Or.inl ⟨z, rfl⟩
      · rw [if_neg z] at h4
        exact Or.inr ⟨z, h4⟩
    · by_cases z : gc c e y = 5
      · rw [if_pos z] at h5
        exact Or.inl ⟨z, h5⟩
      · rw [if_neg z] at h5
        cases h5
        exact Or.inr ⟨z, rfl⟩
