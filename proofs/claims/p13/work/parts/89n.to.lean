/-! every text is read to an end -/
def dn_rk (k : Nat) : Int := if k = 1 then 1 else if k = 3 then 2 else if k = 6 then 3 else if k = 5 then 4 else if k = 7 then 5 else if k = 9 then 6 else 0
theorem dn_rk_b {k : Nat} (hk : k ≤ 10) : 0 ≤ dn_rk k ∧ dn_rk k ≤ 6 := by
  have hc : k = 0 ∨ k = 1 ∨ k = 2 ∨ k = 3 ∨ k = 4 ∨ k = 5 ∨ k = 6 ∨ k = 7 ∨ k = 8 ∨ k = 9 ∨ k = 10 := by omega
  rcases hc with rfl | rfl | rfl | rfl | rfl | rfl | rfl | rfl | rfl | rfl | rfl <;> decide
theorem d_bind_ne {r : Option dR} {k : Int → Int → dM → Option dR} (h : r ≠ none) (hk : ∀ j l m, r = some (.inr (j, l, m)) → k j l m ≠ none) : d_bind r k ≠ none := by
  match r, h, hk with
  | some (.inr (j, l, m)), _, hk => exact hk j l m rfl
  | some (.inl f), _, _ => exact fun z => nomatch z
  | none, h, _ => exact absurd rfl h
theorem d_bq_ne {r : Option dR} {k : Int → Int → dM → Option dQ} (h : r ≠ none) (hk : ∀ j l m, r = some (.inr (j, l, m)) → k j l m ≠ none) : d_bq r k ≠ none := by
  match r, h, hk with
  | some (.inr (j, l, m)), _, hk => exact hk j l m rfl
  | some (.inl f), _, _ => exact fun z => nomatch z
  | none, h, _ => exact absurd rfl h
section Tot
variable {od : Bool} {c x : Int → Int} {N : Int}
theorem dn_tot (hN : ∀ k, N ≤ k → c k = 0) : ∀ (n k : Nat) (o i l : Int) (a : dM), k ≤ 10 → i ≤ N → 8 * (N - i) + dn_rk k < (n : Int) → dn od c x n k o i l a ≠ none := by
  have hin : ∀ i, ¬ c i = 0 → i + 1 ≤ N := fun i h => tok_lt hN h
  have hle := @dn_le od c x N hN
  have hge := @dn_ge od c x
  intro n
  induction n with
  | zero =>
    intro k o i l a hk hi hn
    have := (dn_rk_b hk).1
    have h0 : ((0 : Nat) : Int) = 0 := rfl
    omega
  | succ n ih =>
    intro k o i l a hk hi hn
    have hn1 : ((n + 1 : Nat) : Int) = (n : Int) + 1 := rfl
    have r0 : dn_rk 0 = 0 := rfl
    have r1 : dn_rk 1 = 1 := rfl
    have r2 : dn_rk 2 = 0 := rfl
    have r3 : dn_rk 3 = 2 := rfl
    have r4 : dn_rk 4 = 0 := rfl
    have r5 : dn_rk 5 = 4 := rfl
    have r6 : dn_rk 6 = 3 := rfl
    have r7 : dn_rk 7 = 5 := rfl
    have r8 : dn_rk 8 = 0 := rfl
    have r9 : dn_rk 9 = 6 := rfl
    have r10 : dn_rk 10 = 0 := rfl
    have hc : k = 0 ∨ k = 1 ∨ k = 2 ∨ k = 3 ∨ k = 4 ∨ k = 5 ∨ k = 6 ∨ k = 7 ∨ k = 8 ∨ k = 9 ∨ k = 10 := by omega
    rcases hc with rfl | rfl | rfl | rfl | rfl | rfl | rfl | rfl | rfl | rfl | rfl
    · rw [dn_0]
      split
      · rename_i hc
        split
        · exact fun z => nomatch z
        · have hi1 := hin i (by omega)
          refine d_bind_ne (ih 3 _ _ _ _ (by decide) hi1 (by omega)) (fun j l m _ => ?_)
          split <;> exact fun z => nomatch z
      · repeat' split
        all_goals exact fun z => nomatch z
    · rw [dn_1]
      refine d_bind_ne (ih 0 _ _ _ _ (by decide) hi (by omega)) (fun j l1 m h => ?_)
      have q1 := hle n 0 _ _ _ _ _ _ _ (by decide) hi h
      have q2 := (hge n 0 _ _ _ _ _ _ _ (by decide) h).2 (by omega)
      exact ih 2 _ _ _ _ (by decide) q1 (by omega)
    · rw [dn_2]
      split
      · rename_i hc
        have hi1 := hin i (by omega)
        refine d_bind_ne (ih 0 _ _ _ _ (by decide) hi1 (by omega)) (fun j l1 m h => ?_)
        have q1 := hle n 0 _ _ _ _ _ _ _ (by decide) hi1 h
        have q2 := (hge n 0 _ _ _ _ _ _ _ (by decide) h).2 (by omega)
        exact ih 2 _ _ _ _ (by decide) q1 (by omega)
      · exact fun z => nomatch z
    · rw [dn_3]
      refine d_bind_ne (ih 1 _ _ _ _ (by decide) hi (by omega)) (fun j l1 m h => ?_)
      have q1 := hle n 1 _ _ _ _ _ _ _ (by decide) hi h
      have q2 := (hge n 1 _ _ _ _ _ _ _ (by decide) h).2 (by omega)
      exact ih 4 _ _ _ _ (by decide) q1 (by omega)
    · rw [dn_4]
      split
      · rename_i hc
        have hi1 := hin i (by omega)
        refine d_bind_ne (ih 1 _ _ _ _ (by decide) hi1 (by omega)) (fun j l1 m h => ?_)
        have q1 := hle n 1 _ _ _ _ _ _ _ (by decide) hi1 h
        have q2 := (hge n 1 _ _ _ _ _ _ _ (by decide) h).2 (by omega)
        exact ih 4 _ _ _ _ (by decide) q1 (by omega)
      · exact fun z => nomatch z
    · rw [dn_5]
      have e1 := d_nots_ge c 401 i false
      have e2 := d_nots_le hN 401 i false hi
      refine d_bind_ne (ih 6 _ _ _ _ (by decide) e2 (by omega)) (fun j l1 m h => ?_)
      exact fun z => nomatch z
    · rw [dn_6]
      split
      · rename_i hc
        split
        · exact fun z => nomatch z
        · have hi1 := hin i (by omega)
          refine d_bind_ne (ih 9 _ _ _ _ (by decide) hi1 (by omega)) (fun j l m _ => ?_)
          split <;> exact fun z => nomatch z
      · refine d_bind_ne (ih 3 _ _ _ _ (by decide) hi (by omega)) (fun j l1 m h => ?_)
        have q1 := hle n 3 _ _ _ _ _ _ _ (by decide) hi h
        have q2 := (hge n 3 _ _ _ _ _ _ _ (by decide) h).2 (by omega)
        split
        · rename_i hc2
          have hj1 := hin j (by omega)
          refine d_bind_ne (ih 3 _ _ _ _ (by decide) hj1 (by omega)) (fun j2 l2 m2 _ => ?_)
          exact fun z => nomatch z
        · exact fun z => nomatch z
    · rw [dn_7]
      refine d_bind_ne (ih 5 _ _ _ _ (by decide) hi (by omega)) (fun j l1 m h => ?_)
      have q1 := hle n 5 _ _ _ _ _ _ _ (by decide) hi h
      have q2 := (hge n 5 _ _ _ _ _ _ _ (by decide) h).2 (by omega)
      exact ih 8 _ _ _ _ (by decide) q1 (by omega)
    · rw [dn_8]
      split
      · rename_i hc
        have hi1 := hin i (by omega)
        refine d_bind_ne (ih 5 _ _ _ _ (by decide) hi1 (by omega)) (fun j l1 m h => ?_)
        have q1 := hle n 5 _ _ _ _ _ _ _ (by decide) hi1 h
        have q2 := (hge n 5 _ _ _ _ _ _ _ (by decide) h).2 (by omega)
        exact ih 8 _ _ _ _ (by decide) q1 (by omega)
      · exact fun z => nomatch z
    · rw [dn_9]
      refine d_bind_ne (ih 7 _ _ _ _ (by decide) hi (by omega)) (fun j l1 m h => ?_)
      have q1 := hle n 7 _ _ _ _ _ _ _ (by decide) hi h
      have q2 := (hge n 7 _ _ _ _ _ _ _ (by decide) h).2 (by omega)
      exact ih 10 _ _ _ _ (by decide) q1 (by omega)
    · rw [dn_10]
      split
      · rename_i hc
        have hi1 := hin i (by omega)
        refine d_bind_ne (ih 7 _ _ _ _ (by decide) hi1 (by omega)) (fun j l1 m h => ?_)
        have q1 := hle n 7 _ _ _ _ _ _ _ (by decide) hi1 h
        have q2 := (hge n 7 _ _ _ _ _ _ _ (by decide) h).2 (by omega)
        exact ih 10 _ _ _ _ (by decide) q1 (by omega)
      · exact fun z => nomatch z
theorem dn_go (hN : ∀ k, N ≤ k → c k = 0) (hN0 : 0 ≤ N) {k : Nat} {o i l : Int} {a : dM} (hk : k ≤ 10) (hi : 0 ≤ i ∧ i ≤ N) : dn od c x (8 * N.toNat + 20) k o i l a ≠ none := by
  refine dn_tot hN _ k o i l a hk hi.2 ?_
  have := (dn_rk_b hk).2
  have e : ((8 * N.toNat + 20 : Nat) : Int) = 8 * N + 20 := by omega
  omega
theorem d_if_go (hN : ∀ k, N ≤ k → c k = 0) (hN0 : 0 ≤ N) {i l K t : Int} {a b : dM} (hi : 0 ≤ i ∧ i ≤ N) : d_if od c x (8 * N.toNat + 20) i l K t a b ≠ none := by
  unfold d_if
  split
  · rename_i hc
    have hi1 := tok_lt hN (i := i) (by omega)
    exact d_bq_ne (dn_go hN hN0 (by decide) ⟨by omega, hi1⟩) (fun j l m _ z => nomatch z)
  · exact fun z => nomatch z
theorem d_times_go (hN : ∀ k, N ≤ k → c k = 0) (hN0 : 0 ≤ N) {i l K : Int} {a b : dM} (hi : 0 ≤ i ∧ i ≤ N) : d_times c x (8 * N.toNat + 20) i l K a b ≠ none := by
  unfold d_times
  split
  · split
    · rename_i hc1 hc
      have hi1 := tok_lt hN (i := i + 1) (by omega)
      exact d_if_go hN hN0 ⟨by omega, by omega⟩
    · exact fun z => nomatch z
  · exact d_if_go hN hN0 hi
theorem d_two_go (hN : ∀ k, N ≤ k → c k = 0) (hN0 : 0 ≤ N) {w i l K : Int} (hw : 1 ≤ w) (hi : 0 ≤ i ∧ i + 1 ≤ N) : d_two c x (8 * N.toNat + 20) w i l K ≠ none := by
  unfold d_two
  refine d_bq_ne (dn_go hN hN0 (by decide) ⟨by omega, hi.2⟩) (fun j l1 m h => ?_)
  have q1 := dn_le hN _ 3 _ _ _ _ _ _ _ (by decide) hi.2 h
  have q2 := (dn_ge _ 3 _ _ _ _ _ _ _ (by decide) h).1
  split
  · rename_i hc
    have hj := tok_lt hN (i := j) (by omega)
    refine d_bq_ne (dn_go hN hN0 (by decide) ⟨by omega, hj⟩) (fun j2 l2 m2 h2 => ?_)
    have q3 := dn_le hN _ 3 _ _ _ _ _ _ _ (by decide) hj h2
    have q4 := (dn_ge _ 3 _ _ _ _ _ _ _ (by decide) h2).1
    exact d_times_go hN hN0 ⟨by omega, q3⟩
  · exact fun z => nomatch z
theorem d_cl_go (hN : ∀ k, N ≤ k → c k = 0) (hN0 : 0 ≤ N) {i l : Int} (hi : 0 ≤ i ∧ i ≤ N) : d_cl od c x (8 * N.toNat + 20) i l ≠ none := by
  cases od with
  | false =>
    show d_law c x _ i l ≠ none
    unfold d_law
    split
    · rename_i hc
      have hi1 := tok_lt hN (i := i) (by omega)
      refine d_bq_ne (dn_go hN hN0 (by decide) ⟨by omega, hi1⟩) (fun j l1 m h => ?_)
      have q1 := dn_le hN _ 3 _ _ _ _ _ _ _ (by decide) hi1 h
      have q2 := (dn_ge _ 3 _ _ _ _ _ _ _ (by decide) h).1
      exact d_if_go hN hN0 ⟨by omega, q1⟩
    · split
      · rename_i hc
        have hi1 := tok_lt hN (i := i) (by omega)
        exact d_if_go hN hN0 ⟨by omega, hi1⟩
      · exact fun z => nomatch z
  | true =>
    show d_order c x _ i l ≠ none
    unfold d_order
    split
    · rename_i hc
      have hi1 := tok_lt hN (i := i) (by omega)
      refine d_bq_ne (dn_go hN hN0 (by decide) ⟨by omega, hi1⟩) (fun j l1 m h => ?_)
      have q1 := dn_le hN _ 3 _ _ _ _ _ _ _ (by decide) hi1 h
      have q2 := (dn_ge _ 3 _ _ _ _ _ _ _ (by decide) h).1
      exact d_times_go hN hN0 ⟨by omega, q1⟩
    · split
      · rename_i hc
        exact d_two_go hN hN0 (by decide) ⟨hi.1, tok_lt hN (i := i) (by omega)⟩
      · split
        · rename_i hc
          exact d_two_go hN hN0 (by decide) ⟨hi.1, tok_lt hN (i := i) (by omega)⟩
        · split
          · rename_i hc
            have hi1 := tok_lt hN (i := i) (by omega)
            exact d_times_go hN hN0 ⟨by omega, hi1⟩
          · exact fun z => nomatch z
theorem d_rest_go (hN : ∀ k, N ≤ k → c k = 0) (hN0 : 0 ≤ N) : ∀ (m : Nat) (i l : Int), (0 ≤ i ∧ i ≤ N) → d_rest od c x (8 * N.toNat + 20) N m i l ≠ none
  | 0, i, l, hi => by
    unfold d_rest
    repeat' split
    all_goals exact fun z => nomatch z
  | m + 1, i, l, hi => by
    unfold d_rest
    split
    · rename_i hc
      have hi1 := tok_lt hN (i := i) (by omega)
      have hcl := d_cl_go (od := od) (x := x) (l := l) hN hN0 (i := i + 1) ⟨by omega, hi1⟩
      split
      · rename_i j l1 q h
        have hj := d_cl_ok hN h
        have hgt := (d_cl_gt h)
        have ih := d_rest_go hN hN0 m j l1 ⟨by omega, hj.2.1⟩
        split
        · exact fun z => nomatch z
        · exact ih
      · exact fun z => nomatch z
      · rename_i h
        exact absurd h hcl
    · split <;> exact fun z => nomatch z
/-- a whole text -/
theorem d_all_go (hN : ∀ k, N ≤ k → c k = 0) (hN0 : 0 ≤ N) : ∃ rs, d_all od c x (8 * N.toNat + 20) N = some rs := by
  have key : d_all od c x (8 * N.toNat + 20) N ≠ none := by
    have hcl := d_cl_go (od := od) (x := x) (l := 0) hN hN0 (i := 0) ⟨Int.le_refl _, hN0⟩
    unfold d_all
    split
    · rename_i j l1 q h
      have hj := d_cl_ok hN h
      have hgt := (d_cl_gt h)
      have ih := d_rest_go (od := od) (x := x) hN hN0 11 j l1 ⟨by omega, hj.2.1⟩
      split
      · exact fun z => nomatch z
      · exact ih
    · exact fun z => nomatch z
    · rename_i h
      exact absurd h hcl
  cases h : d_all od c x (8 * N.toNat + 20) N with
  | none => exact absurd h key
  | some rs => exact ⟨rs, rfl⟩
end Tot
