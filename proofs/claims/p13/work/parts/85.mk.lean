/-! values are read where numbers stand alone -/
def mk_c (c x : Int → Int) : Int → Int := fun k => if c k = 50 then x k else 0
theorem dn_msk {od : Bool} {c x : Int → Int} : ∀ (n k : Nat) (o i l : Int) (a : dM), k ≤ 10 → dn od c (mk_c c x) n k o i l a = dn od c x n k o i l a := by
  intro n
  induction n with
  | zero => intro k o i l a hk; rfl
  | succ n ih =>
    intro k o i l a hk
    have i0 := fun o i l a => ih 0 o i l a (by decide)
    have i1 := fun o i l a => ih 1 o i l a (by decide)
    have i2 := fun o i l a => ih 2 o i l a (by decide)
    have i3 := fun o i l a => ih 3 o i l a (by decide)
    have i4 := fun o i l a => ih 4 o i l a (by decide)
    have i5 := fun o i l a => ih 5 o i l a (by decide)
    have i6 := fun o i l a => ih 6 o i l a (by decide)
    have i7 := fun o i l a => ih 7 o i l a (by decide)
    have i8 := fun o i l a => ih 8 o i l a (by decide)
    have i9 := fun o i l a => ih 9 o i l a (by decide)
    have i10 := fun o i l a => ih 10 o i l a (by decide)
    have hk' : k = 0 ∨ k = 1 ∨ k = 2 ∨ k = 3 ∨ k = 4 ∨ k = 5 ∨ k = 6 ∨ k = 7 ∨ k = 8 ∨ k = 9 ∨ k = 10 := by omega
    rcases hk' with rfl | rfl | rfl | rfl | rfl | rfl | rfl | rfl | rfl | rfl | rfl
    · by_cases h1 : c i = 50 <;> by_cases h2 : c (i + 1) = 50 <;> simp [dn_0, mk_c, h1, h2, i3]
    · simp only [dn_1, i0, i2]
    · simp only [dn_2, i0, i2]
    · simp only [dn_3, i1, i4]
    · simp only [dn_4, i1, i4]
    · simp only [dn_5, i6]
    · simp only [dn_6, i9, i3]
    · simp only [dn_7, i5, i8]
    · simp only [dn_8, i5, i8]
    · simp only [dn_9, i7, i10]
    · simp only [dn_10, i7, i10]
theorem d_if_msk {od : Bool} {c x : Int → Int} {n : Nat} {i l K t : Int} {a b : dM} : d_if od c (mk_c c x) n i l K t a b = d_if od c x n i l K t a b := by
  unfold d_if
  simp only [dn_msk n 9 _ _ _ _ (by decide)]
theorem d_law_msk {c x : Int → Int} {n : Nat} {i l : Int} : d_law c (mk_c c x) n i l = d_law c x n i l := by
  unfold d_law
  simp only [dn_msk n 3 _ _ _ _ (by decide), d_if_msk]
theorem LSd_msk {c x : Int → Int} {N : Int} : ∀ (Cs : List dC) (i : Int), LSd c (mk_c c x) N i Cs ↔ LSd c x N i Cs
  | [], i => Iff.rfl
  | q :: r, i => by
    show (_ ∧ ∃ (n : Nat) (l l' j : Int), d_law c (mk_c c x) n i l = _ ∧ LSd c (mk_c c x) N (j + 1) r) ↔ (_ ∧ ∃ (n : Nat) (l l' j : Int), d_law c x n i l = _ ∧ LSd c x N (j + 1) r)
    simp only [d_law_msk, LSd_msk r]
theorem d_times_msk {c x : Int → Int} {n : Nat} {i l K : Int} {a b : dM} : d_times c (mk_c c x) n i l K a b = d_times c x n i l K a b := by
  unfold d_times
  by_cases h : c (i + 1) = 50 <;> simp [mk_c, h, d_if_msk]
theorem d_two_msk {c x : Int → Int} {n : Nat} {w i l K : Int} : d_two c (mk_c c x) n w i l K = d_two c x n w i l K := by
  unfold d_two
  simp only [dn_msk n 3 _ _ _ _ (by decide), d_times_msk]
theorem d_order_msk {c x : Int → Int} {n : Nat} {i l : Int} : d_order c (mk_c c x) n i l = d_order c x n i l := by
  unfold d_order
  simp only [dn_msk n 3 _ _ _ _ (by decide), d_times_msk, d_two_msk]
theorem d_cl_msk {od : Bool} {c x : Int → Int} {n : Nat} {i l : Int} : d_cl od c (mk_c c x) n i l = d_cl od c x n i l := by
  cases od with
  | false => exact d_law_msk
  | true => exact d_order_msk
theorem LSc_msk {od : Bool} {c x : Int → Int} {N : Int} : ∀ (Cs : List dC) (i : Int), LSc od c (mk_c c x) N i Cs ↔ LSc od c x N i Cs
  | [], i => Iff.rfl
  | q :: r, i => by
    show (_ ∧ ∃ (n : Nat) (l l' j : Int), d_cl od c (mk_c c x) n i l = _ ∧ LSc od c (mk_c c x) N (j + 1) r) ↔ (_ ∧ ∃ (n : Nat) (l l' j : Int), d_cl od c x n i l = _ ∧ LSc od c x N (j + 1) r)
    simp only [d_cl_msk, LSc_msk r]
/-- the law in force, other texts aside -/
theorem KLW_fr6 {K K' : Int → Int} {f : Int} {lw : Option im_T} (hk : KT K) (h : KLW K f lw) (h0 : ∀ t, 0 ≤ t → t < 6 → K' (114 + t) = K (114 + t)) (h1 : ∀ i, 0 ≤ i → i < 2400 → K' (121 + i) = K (121 + i)) (h2 : ∀ i, 0 ≤ i → i < 2400 → K' (2921 + i) = K (2921 + i)) : KLW K' f lw := by
  rcases h with h | ⟨hf, q, Cs, h3, h4, h5⟩
  · exact Or.inl h
  · refine Or.inr ⟨hf, q, Cs, h3, h4, ?_⟩
    have hl := hk.2.2 f hf.1 (by omega)
    have e0 := h0 f hf.1 hf.2
    have hc : ∀ k, 400 * f ≤ k → KC K f k = KC K' f (k + 0) := fun k hk => by
      rw [Int.add_zero]
      unfold KC
      rw [e0]
      by_cases c : k < 400 * f + K (114 + f)
      · rw [if_pos c, if_pos c, h1 k (by omega) (by omega)]
      · rw [if_neg c, if_neg c]
    have hx : ∀ k, 400 * f ≤ k → mk_c (KC K f) (fun i => K (2921 + i)) k = mk_c (KC K' f) (fun i => K' (2921 + i)) (k + 0) := fun k hk => by
      have e := hc k hk
      rw [Int.add_zero] at e ⊢
      unfold mk_c
      rw [← e]
      by_cases c : KC K f k = 50
      · rw [if_pos c, if_pos c]
        have hlt : k < 400 * f + K (114 + f) := by
          by_cases z : k < 400 * f + K (114 + f)
          · exact z
          · have : KC K f k = 0 := if_neg z
            omega
        exact (h2 k (by omega) (by omega)).symm
      · rw [if_neg c, if_neg c]
    have t := LSd_sh (c := KC K' f) (x := mk_c (KC K' f) (fun i => K' (2921 + i))) (s := 0) (i0 := 400 * f) hc hx Cs (400 * f) (Int.le_refl _) ((LSd_msk Cs _).mpr h5)
    rw [Int.add_zero, Int.add_zero] at t
    rw [e0]
    exact (LSd_msk Cs _).mp t
