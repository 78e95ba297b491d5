/-! a land: a day passes; what is sent, lent .. and what holds then (no machine here) -/
abbrev pl_Q : Type := (Nat → Int) × (Nat → Int → Int) × Int × Int
/-- one group on the day that passes: (v, R, how many arrived, how many groups stay) -/
def pl_d1 (k : Int) (q : pl_Q) : pl_Q :=
  if 0 < q.2.1 6 k - 1 then (q.1, pl_U (pl_U (pl_U q.2.1 4 (im_up (q.2.1 4) q.2.2.2 (q.2.1 4 k))) 5 (im_up (q.2.1 5) q.2.2.2 (q.2.1 5 k))) 6 (im_up (im_up (q.2.1 6) k (q.2.1 6 k - 1)) q.2.2.2 (q.2.1 6 k - 1)), q.2.2.1, q.2.2.2 + 1)
  else ((pl_arr (q.2.1 0 (q.2.1 4 k)) (q.2.1 5 k) q.1 (pl_U q.2.1 6 (im_up (q.2.1 6) k (q.2.1 6 k - 1)))).1, (pl_arr (q.2.1 0 (q.2.1 4 k)) (q.2.1 5 k) q.1 (pl_U q.2.1 6 (im_up (q.2.1 6) k (q.2.1 6 k - 1)))).2, q.2.2.1 + q.2.1 5 k, q.2.2.2)
def pl_dy (v : Nat → Int) (R : Nat → Int → Int) : Nat → pl_Q
  | 0 => (pl_U v 6 0, R, 0, 0)
  | k + 1 => pl_d1 k (pl_dy v R k)
def pl_day (v : Nat → Int) (R : Nat → Int → Int) : Int × (Nat → Int) × (Nat → Int → Int) := ((pl_dy v R (v 1).toNat).2.2.1, pl_U (pl_dy v R (v 1).toNat).1 1 (pl_dy v R (v 1).toNat).2.2.2, pl_U (pl_dy v R (v 1).toNat).2.1 7 (im_up ((pl_dy v R (v 1).toNat).2.1 7) 0 ((pl_dy v R (v 1).toNat).2.1 7 0 + 1)))
def PDI (v : Nat → Int) (R : Nat → Int → Int) (k : Nat) (q : pl_Q) : Prop := (q.1 0 = v 0 ∧ q.1 1 = v 1 ∧ q.1 3 = v 3 ∧ q.1 4 = v 4 ∧ q.1 5 = v 5) ∧ (0 ≤ q.1 2 ∧ q.1 2 ≤ 99999) ∧ (0 ≤ q.1 6 ∧ q.1 6 ≤ 98 * k) ∧ (0 ≤ q.2.2.1 ∧ q.2.2.1 ≤ 98 * k) ∧ (0 ≤ q.2.2.2 ∧ q.2.2.2 ≤ k) ∧ (q.2.1 0 = R 0 ∧ q.2.1 1 = R 1 ∧ q.2.1 3 = R 3 ∧ q.2.1 7 = R 7 ∧ q.2.1 8 = R 8 ∧ q.2.1 9 = R 9) ∧ (∀ p, 0 ≤ q.2.1 2 p ∧ q.2.1 2 p ≤ 999) ∧ (∀ g, 0 ≤ q.2.1 4 g ∧ q.2.1 4 g ≤ 9) ∧ (∀ g, 0 ≤ q.2.1 5 g ∧ q.2.1 5 g ≤ 98) ∧ (∀ g, 0 ≤ q.2.1 6 g ∧ q.2.1 6 g ≤ 9) ∧ (∀ g : Int, k ≤ g → q.2.1 4 g = R 4 g ∧ q.2.1 5 g = R 5 g ∧ q.2.1 6 g = R 6 g) ∧ (∀ g, 0 ≤ g → g < q.2.2.2 → q.2.1 4 g < v 0 ∧ 1 ≤ q.2.1 5 g ∧ 1 ≤ q.2.1 6 g)
theorem im_up_b {f : Int → Int} {a b : Int} (h : ∀ i, a ≤ f i ∧ f i ≤ b) {k x : Int} (hx : a ≤ x ∧ x ≤ b) : ∀ i, a ≤ im_up f k x i ∧ im_up f k x i ≤ b := by
  intro i
  unfold im_up
  split
  · exact hx
  · exact h i
theorem PDI_0 {v : Nat → Int} {R : Nat → Int → Int} (h : LOK v R) : PDI v R 0 (pl_dy v R 0) := ⟨⟨rfl, rfl, rfl, rfl, rfl⟩, lk_sea h, ⟨Int.le_refl _, Int.le_refl _⟩, ⟨Int.le_refl _, Int.le_refl _⟩, ⟨Int.le_refl _, Int.le_refl _⟩, ⟨rfl, rfl, rfl, rfl, rfl, rfl⟩, lk_cnt h, lk_frm h, lk_siz h, lk_lef h, fun _ _ => ⟨rfl, rfl, rfl⟩, fun g h1 h2 => absurd h1 (Int.not_le.mpr h2)⟩
theorem PDI_s {v : Nat → Int} {R : Nat → Int → Int} (h : LOK v R) {k : Nat} (hk : (k : Int) < v 1) {q : pl_Q} (hq : PDI v R k q) : PDI v R (k + 1) (pl_d1 k q) := by
  obtain ⟨qv, qR, qa, qs⟩ := q
  obtain ⟨a1, a2, a3, a4, a5, a6, a7, a8, a9, a10, a11, a12⟩ := hq
  dsimp only at a1 a2 a3 a4 a5 a6 a7 a8 a9 a10 a11 a12
  obtain ⟨l1, l2, l3⟩ := lk_liv h (g := k) (by omega) hk
  obtain ⟨e4, e5, e6⟩ := a11 k (Int.le_refl _)
  have b4 := a8 k
  have b5 := a9 k
  have b6 := a10 k
  unfold pl_d1
  dsimp only
  by_cases hc : 0 < qR 6 k - 1
  · rw [if_pos hc]
    refine ⟨a1, a2, ⟨a3.1, ?_⟩, ⟨a4.1, ?_⟩, ⟨?_, ?_⟩, a6, a7, ?_, ?_, ?_, ?_, ?_⟩
    · show qv 6 ≤ 98 * ((k + 1 : Nat) : Int); omega
    · show qa ≤ 98 * ((k + 1 : Nat) : Int); omega
    · show 0 ≤ qs + 1; omega
    · show qs + 1 ≤ ((k + 1 : Nat) : Int); omega
    · exact im_up_b (f := qR 4) a8 b4
    · exact im_up_b (f := qR 5) a9 b5
    · exact im_up_b (f := im_up (qR 6) k (qR 6 k - 1)) (im_up_b a10 (by omega)) (by omega)
    · intro g hg
      have hg' : (k : Int) + 1 ≤ g := by omega
      obtain ⟨z1, z2, z3⟩ := a11 g (by omega)
      refine ⟨?_, ?_, ?_⟩
      · show im_up (qR 4) qs (qR 4 k) g = R 4 g
        rw [im_up_ne _ _ (by omega), z1]
      · show im_up (qR 5) qs (qR 5 k) g = R 5 g
        rw [im_up_ne _ _ (by omega), z2]
      · show im_up (im_up (qR 6) k (qR 6 k - 1)) qs (qR 6 k - 1) g = R 6 g
        rw [im_up_ne _ _ (by omega), im_up_ne _ _ (by omega), z3]
    · intro g h1 h2
      have h2' : g < qs + 1 := h2
      show im_up (qR 4) qs (qR 4 k) g < v 0 ∧ 1 ≤ im_up (qR 5) qs (qR 5 k) g ∧ 1 ≤ im_up (im_up (qR 6) k (qR 6 k - 1)) qs (qR 6 k - 1) g
      by_cases hgs : g = qs
      · subst hgs
        rw [im_up_self, im_up_self, im_up_self]
        exact ⟨by omega, by omega, by omega⟩
      · rw [im_up_ne _ _ hgs, im_up_ne _ _ hgs, im_up_ne _ _ hgs, im_up_ne _ _ (by omega)]
        exact a12 g h1 (by omega)
  · rw [if_neg hc]
    have hb6 : ∀ g, 0 ≤ im_up (qR 6) k (qR 6 k - 1) g ∧ im_up (qR 6) k (qR 6 k - 1) g ≤ 9 := im_up_b a10 (by omega)
    have hsame : ∀ g : Int, ((k + 1 : Nat) : Int) ≤ g → qR 4 g = R 4 g ∧ qR 5 g = R 5 g ∧ im_up (qR 6) k (qR 6 k - 1) g = R 6 g := by
      intro g hg
      obtain ⟨z1, z2, z3⟩ := a11 g (by omega)
      exact ⟨z1, z2, by rw [im_up_ne _ _ (by omega)]; exact z3⟩
    have hlive : ∀ g, 0 ≤ g → g < qs → qR 4 g < v 0 ∧ 1 ≤ qR 5 g ∧ 1 ≤ im_up (qR 6) k (qR 6 k - 1) g := by
      intro g h1 h2
      rw [im_up_ne _ _ (by omega)]
      exact a12 g h1 h2
    unfold pl_arr
    by_cases hh : 0 ≤ qR 0 (qR 4 k) ∧ qR 0 (qR 4 k) < qv 0 ∧ qR 0 (qR 4 k) < 10
    · rw [if_pos hh]
      refine ⟨a1, a2, ⟨a3.1, ?_⟩, ⟨?_, ?_⟩, ⟨a5.1, ?_⟩, a6, ?_, a8, a9, hb6, hsame, hlive⟩
      · show qv 6 ≤ 98 * ((k + 1 : Nat) : Int); omega
      · show 0 ≤ qa + qR 5 k; omega
      · show qa + qR 5 k ≤ 98 * ((k + 1 : Nat) : Int); omega
      · show qs ≤ ((k + 1 : Nat) : Int); omega
      · have b2 := a7 (qR 0 (qR 4 k))
        exact im_up_b (f := qR 2) a7 (by show 0 ≤ min 999 (qR 2 (qR 0 (qR 4 k)) + qR 5 k) ∧ min 999 (qR 2 (qR 0 (qR 4 k)) + qR 5 k) ≤ 999; omega)
    · rw [if_neg hh]
      refine ⟨a1, ⟨?_, ?_⟩, ⟨?_, ?_⟩, ⟨?_, ?_⟩, ⟨a5.1, ?_⟩, a6, a7, a8, a9, hb6, hsame, hlive⟩
      · show 0 ≤ min 99999 (qv 2 + qR 5 k); omega
      · show min 99999 (qv 2 + qR 5 k) ≤ 99999; omega
      · show 0 ≤ qv 6 + qR 5 k; omega
      · show qv 6 + qR 5 k ≤ 98 * ((k + 1 : Nat) : Int); omega
      · show 0 ≤ qa + qR 5 k; omega
      · show qa + qR 5 k ≤ 98 * ((k + 1 : Nat) : Int); omega
      · show qs ≤ ((k + 1 : Nat) : Int); omega
theorem PDI_k {v : Nat → Int} {R : Nat → Int → Int} (h : LOK v R) : ∀ k : Nat, (k : Int) ≤ v 1 → PDI v R k (pl_dy v R k)
  | 0, _ => PDI_0 h
  | k + 1, hk => PDI_s h (by omega) (PDI_k h k (by omega))
theorem LOK_day {v : Nat → Int} {R : Nat → Int → Int} (h : LOK v R) : LOK (pl_day v R).2.1 (pl_day v R).2.2 ∧ (0 ≤ (pl_day v R).2.1 6 ∧ (pl_day v R).2.1 6 ≤ 1568) ∧ (pl_day v R).2.2 7 0 = R 7 0 + 1 ∧ (0 ≤ (pl_day v R).1 ∧ (pl_day v R).1 ≤ 1568) := by
  have hg := lk_grp h
  have hp := PDI_k h (v 1).toNat (by omega)
  obtain ⟨a1, a2, a3, a4, a5, a6, a7, a8, a9, a10, a11, a12⟩ := hp
  obtain ⟨l1, l2, l3, l4, l5, l6, l7, l8, -, l10, -, -, -, l14, l15, l16, l17, -, l19⟩ := h
  have e7 : (pl_day v R).2.2 7 0 = R 7 0 + 1 := by
    show im_up ((pl_dy v R (v 1).toNat).2.1 7) 0 ((pl_dy v R (v 1).toNat).2.1 7 0 + 1) 0 = _
    rw [im_up_self, a6.2.2.2.1]
  have e7' : ∀ i, i ≠ 0 → (pl_day v R).2.2 7 i = R 7 i := by
    intro i hi
    show im_up ((pl_dy v R (v 1).toNat).2.1 7) 0 ((pl_dy v R (v 1).toNat).2.1 7 0 + 1) i = _
    rw [im_up_ne _ _ hi, a6.2.2.2.1]
  refine ⟨⟨?_, ?_, a2, ?_, ?_, ?_, ?_, ?_, a7, ?_, a8, a9, a10, ?_, ?_, ?_, ?_, ?_, ?_⟩, ⟨a3.1, by have := a3.2; show (pl_dy v R (v 1).toNat).1 6 ≤ 1568; omega⟩, e7, ⟨a4.1, by have := a4.2; show (pl_dy v R (v 1).toNat).2.2.1 ≤ 1568; omega⟩⟩
  · show 0 ≤ (pl_dy v R (v 1).toNat).1 0 ∧ (pl_dy v R (v 1).toNat).1 0 ≤ 10; omega
  · show 0 ≤ (pl_dy v R (v 1).toNat).2.2.2 ∧ (pl_dy v R (v 1).toNat).2.2.2 ≤ 16; omega
  · show 0 ≤ (pl_dy v R (v 1).toNat).1 3 ∧ (pl_dy v R (v 1).toNat).1 3 ≤ 8; omega
  · show 0 ≤ (pl_dy v R (v 1).toNat).1 4 ∧ (pl_dy v R (v 1).toNat).1 4 ≤ 6; omega
  · show -1 ≤ (pl_dy v R (v 1).toNat).1 5 ∧ (pl_dy v R (v 1).toNat).1 5 < (pl_dy v R (v 1).toNat).1 4; omega
  · intro p; show -1 ≤ (pl_dy v R (v 1).toNat).2.1 0 p ∧ (pl_dy v R (v 1).toNat).2.1 0 p ≤ 9; rw [a6.1]; exact l7 p
  · intro p; show 0 ≤ (pl_dy v R (v 1).toNat).2.1 1 p ∧ (pl_dy v R (v 1).toNat).2.1 1 p ≤ 9; rw [a6.2.1]; exact l8 p
  · intro p; show 0 ≤ (pl_dy v R (v 1).toNat).2.1 3 p ∧ (pl_dy v R (v 1).toNat).2.1 3 p ≤ 99999; rw [a6.2.2.1]; exact l10 p
  · rw [e7, e7' 1 (by decide), e7' 2 (by decide), e7' 3 (by decide)]; omega
  · intro p; show 0 ≤ (pl_dy v R (v 1).toNat).2.1 8 p ∧ (pl_dy v R (v 1).toNat).2.1 8 p ≤ 9; rw [a6.2.2.2.2.1]; exact l15 p
  · intro p; show 0 ≤ (pl_dy v R (v 1).toNat).2.1 9 p ∧ (pl_dy v R (v 1).toNat).2.1 9 p ≤ 98; rw [a6.2.2.2.2.2]; exact l16 p
  · intro p h1 h2
    have h2' : p < (pl_dy v R (v 1).toNat).1 0 := h2
    show (pl_dy v R (v 1).toNat).2.1 0 p < p ∧ (pl_dy v R (v 1).toNat).2.1 1 p ≤ p
    rw [a6.1, a6.2.1]
    exact l17 p h1 (by omega)
  · intro g h1 h2
    have h2' : g < (pl_dy v R (v 1).toNat).2.2.2 := h2
    have := a12 g h1 h2'
    show (pl_dy v R (v 1).toNat).2.1 4 g < (pl_dy v R (v 1).toNat).1 0 ∧ _
    rw [a1.1]
    exact this
  · intro p h1 h2
    have h2' : p < (pl_dy v R (v 1).toNat).1 3 := h2
    show (pl_dy v R (v 1).toNat).2.1 8 p < (pl_dy v R (v 1).toNat).1 0
    rw [a6.2.2.2.2.1, a1.1]
    exact l19 p h1 (by omega)
