/-! clauses behind one another -/
theorem tk_Q_lt {A : Int → Int} {N : Int} (hN : 0 ≤ N ∧ N ≤ 400) {j : Int} (hj : 0 ≤ j) : tk_Q A N j < N ↔ j < tk_nt A N := by
  obtain ⟨h1, h2, h3⟩ := tk_nt_b (A := A) hN
  have key : ∀ n : Nat, tk_P A N ((tk_nt A N).toNat + n) = N := by
    intro n
    induction n with
    | zero => exact h2
    | succ n ih =>
      have a := tk_P_up (A := A) hN.1 ((tk_nt A N).toNat + n)
      have b := tk_P_b (A := A) hN.1 ((tk_nt A N).toNat + n + 1)
      show tk_P A N ((tk_nt A N).toNat + n + 1) = N
      omega
  unfold tk_Q
  constructor
  · intro h
    by_cases e : j < tk_nt A N
    · exact e
    · have t := key (j.toNat - (tk_nt A N).toNat)
      rw [show (tk_nt A N).toNat + (j.toNat - (tk_nt A N).toNat) = j.toNat by omega] at t
      omega
  · intro h
    exact h3 j.toNat (by omega)
theorem tk_kind_0 {A : Int → Int} {N s : Int} : tk_kind A N s = 0 ↔ ¬ s < N := by
  unfold tk_kind
  by_cases e : s < N
  · rw [if_pos e]
    have := tk_kd_b (A s)
    exact ⟨fun h => by omega, fun h => absurd e h⟩
  · rw [if_neg e]
    exact ⟨fun _ => e, fun _ => rfl⟩
/-- dn tells parts within bounds -/
theorem dn_parts {od : Bool} {c x : Int → Int} : ∀ (n k : Nat) (o i l : Int) (a : dM) (j l' : Int) (m : dM), k ≤ 10 → (0 ≤ l ∧ l ≤ 50) → dn od c x n k o i l a = some (.inr (j, l', m)) → 0 ≤ l' ∧ l' ≤ 50 := by
  intro n
  induction n with
  | zero => intro k o i l a j l' m hk hl h; exact nomatch h
  | succ n ih =>
    intro k o i l a j l' m hk hl h
    have hk' : k = 0 ∨ k = 1 ∨ k = 2 ∨ k = 3 ∨ k = 4 ∨ k = 5 ∨ k = 6 ∨ k = 7 ∨ k = 8 ∨ k = 9 ∨ k = 10 := by omega
    rcases hk' with rfl | rfl | rfl | rfl | rfl | rfl | rfl | rfl | rfl | rfl | rfl
    · rw [dn_0] at h
      split at h
      · split at h
        · cases h
        · obtain ⟨j1, l1, m1, q1, q2⟩ := d_bind_r h
          have t := ih _ _ _ _ _ _ _ _ (by decide) hl q1
          split at q2
          · cases q2; exact t
          · cases q2
      · split at h
        · split at h
          · cases h
          · split at h
            · split at h
              · cases h; omega
              · cases h
            · cases h; omega
        · cases h
    · rw [dn_1] at h
      obtain ⟨j1, l1, m1, q1, q2⟩ := d_bind_r h
      exact ih _ _ _ _ _ _ _ _ (by decide) (ih _ _ _ _ _ _ _ _ (by decide) hl q1) q2
    · rw [dn_2] at h
      split at h
      · obtain ⟨j1, l1, m1, q1, q2⟩ := d_bind_r h
        exact ih _ _ _ _ _ _ _ _ (by decide) (ih _ _ _ _ _ _ _ _ (by decide) hl q1) q2
      · cases h; exact hl
    · rw [dn_3] at h
      obtain ⟨j1, l1, m1, q1, q2⟩ := d_bind_r h
      exact ih _ _ _ _ _ _ _ _ (by decide) (ih _ _ _ _ _ _ _ _ (by decide) hl q1) q2
    · rw [dn_4] at h
      split at h
      · obtain ⟨j1, l1, m1, q1, q2⟩ := d_bind_r h
        exact ih _ _ _ _ _ _ _ _ (by decide) (ih _ _ _ _ _ _ _ _ (by decide) hl q1) q2
      · cases h; exact hl
    · rw [dn_5] at h
      obtain ⟨j1, l1, m1, q1, q2⟩ := d_bind_r h
      have t := ih _ _ _ _ _ _ _ _ (by decide) hl q1
      cases q2
      exact t
    · rw [dn_6] at h
      split at h
      · split at h
        · cases h
        · obtain ⟨j1, l1, m1, q1, q2⟩ := d_bind_r h
          have t := ih _ _ _ _ _ _ _ _ (by decide) hl q1
          split at q2
          · cases q2; exact t
          · cases q2
      · obtain ⟨j1, l1, m1, q1, q2⟩ := d_bind_r h
        have t := ih _ _ _ _ _ _ _ _ (by decide) hl q1
        split at q2
        · obtain ⟨j2, l2, m2, q3, q4⟩ := d_bind_r q2
          have t2 := ih _ _ _ _ _ _ _ _ (by decide) t q3
          cases q4
          exact t2
        · cases q2
    · rw [dn_7] at h
      obtain ⟨j1, l1, m1, q1, q2⟩ := d_bind_r h
      exact ih _ _ _ _ _ _ _ _ (by decide) (ih _ _ _ _ _ _ _ _ (by decide) hl q1) q2
    · rw [dn_8] at h
      split at h
      · obtain ⟨j1, l1, m1, q1, q2⟩ := d_bind_r h
        exact ih _ _ _ _ _ _ _ _ (by decide) (ih _ _ _ _ _ _ _ _ (by decide) hl q1) q2
      · cases h; exact hl
    · rw [dn_9] at h
      obtain ⟨j1, l1, m1, q1, q2⟩ := d_bind_r h
      exact ih _ _ _ _ _ _ _ _ (by decide) (ih _ _ _ _ _ _ _ _ (by decide) hl q1) q2
    · rw [dn_10] at h
      split at h
      · obtain ⟨j1, l1, m1, q1, q2⟩ := d_bind_r h
        exact ih _ _ _ _ _ _ _ _ (by decide) (ih _ _ _ _ _ _ _ _ (by decide) hl q1) q2
      · cases h; exact hl
/-- clauses taken apart -/
theorem d_bq_s {r : Option dR} {k : Int → Int → dM → Option dQ} {y : dQ} (h : d_bq r k = some y) : (∃ f, r = some (.inl f) ∧ y = .inl f) ∨ ∃ j l m, r = some (.inr (j, l, m)) ∧ k j l m = some y := by
  match r, h with
  | some (.inl g), h => exact Or.inl ⟨g, rfl, (Option.some.inj h).symm⟩
  | some (.inr (j, l, m)), h => exact Or.inr ⟨j, l, m, rfl, h⟩
/-- a clause ahead of what comes -/
def ccat (q : dC) (y : Int ⊕ List dC) : Int ⊕ List dC := match y with
  | .inl f => .inl f
  | .inr r => .inr (q :: r)
def cats (Cs : List dC) (y : Int ⊕ List dC) : Int ⊕ List dC := match y with
  | .inl f => .inl f
  | .inr r => .inr (Cs ++ r)
theorem cats_s (Cs : List dC) (q : dC) (y : Int ⊕ List dC) : cats Cs (ccat q y) = cats (Cs ++ [q]) y := by
  match y with
  | .inl f => rfl
  | .inr r =>
    show Sum.inr (Cs ++ q :: r) = Sum.inr ((Cs ++ [q]) ++ r)
    rw [List.append_assoc]
    rfl
theorem cats_0 (y : Int ⊕ List dC) : cats [] y = y := by
  match y with
  | .inl f => rfl
  | .inr r => rfl
/-- a clause is to be read, p at most -/
def DCR (od : Bool) (c x : Int → Int) (n : Nat) (N : Int) (p : Nat) (i l : Int) (y : Int ⊕ List dC) : Prop := match p with
  | 0 => y = .inl i
  | p + 1 => (∃ f, d_cl od c x n i l = some (.inl f) ∧ y = .inl f) ∨ ∃ j l' q y', d_cl od c x n i l = some (.inr (j, l', q)) ∧ d_rest od c x n N p j l' = some y' ∧ y = ccat q y'
theorem dcr_of {od : Bool} {c x : Int → Int} {n : Nat} {N : Int} {p : Nat} {i l : Int} {y : Int ⊕ List dC} (h : (match d_cl od c x n i l with
    | some (.inr (j, l, q)) => (match d_rest od c x n N p j l with
      | some (.inr r) => some (.inr (q :: r))
      | z => z)
    | some (.inl f) => some (.inl f)
    | none => none) = some y) : DCR od c x n N (p + 1) i l y := by
  cases hc : d_cl od c x n i l with
  | none => rw [hc] at h; exact nomatch h
  | some z =>
    rw [hc] at h
    match z, hc, h with
    | .inl f, hc, h => exact Or.inl ⟨f, hc, (Option.some.inj h).symm⟩
    | .inr (j, l', q), hc, h =>
      refine Or.inr ⟨j, l', q, ?_⟩
      dsimp only at h
      cases hr : d_rest od c x n N p j l' with
      | none => rw [hr] at h; exact nomatch h
      | some t =>
        rw [hr] at h
        match t, h with
        | .inl f, h => exact ⟨.inl f, hc, rfl, (Option.some.inj h).symm⟩
        | .inr r, h => exact ⟨.inr r, hc, rfl, (Option.some.inj h).symm⟩
theorem d_rest_d {od : Bool} {c x : Int → Int} {n : Nat} {N : Int} {p : Nat} {i l : Int} {y : Int ⊕ List dC} (h : d_rest od c x n N p i l = some y) : (c i = 159 ∧ DCR od c x n N p (i + 1) l y) ∨ (¬ c i = 159 ∧ ((i < N ∧ y = .inl i) ∨ (¬ i < N ∧ y = .inr []))) := by
  match p, h with
  | 0, h =>
    unfold d_rest at h
    by_cases e : c i = 159
    · rw [if_pos e] at h
      exact Or.inl ⟨e, (Option.some.inj h).symm⟩
    · rw [if_neg e] at h
      refine Or.inr ⟨e, ?_⟩
      split at h
      · rename_i g
        exact Or.inl ⟨g, (Option.some.inj h).symm⟩
      · rename_i g
        exact Or.inr ⟨g, (Option.some.inj h).symm⟩
  | p + 1, h =>
    unfold d_rest at h
    by_cases e : c i = 159
    · rw [if_pos e] at h
      exact Or.inl ⟨e, dcr_of h⟩
    · rw [if_neg e] at h
      refine Or.inr ⟨e, ?_⟩
      split at h
      · rename_i g
        exact Or.inl ⟨g, (Option.some.inj h).symm⟩
      · rename_i g
        exact Or.inr ⟨g, (Option.some.inj h).symm⟩
theorem d_all_d {od : Bool} {c x : Int → Int} {n : Nat} {N : Int} {y : Int ⊕ List dC} (h : d_all od c x n N = some y) : DCR od c x n N 12 0 0 y := dcr_of h
