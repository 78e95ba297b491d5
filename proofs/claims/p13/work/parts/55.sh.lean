/-! a text read elsewhere -/
def dS (s : Int) (r : Option dR) : Option dR := match r with
  | some (.inr (j, l, m)) => some (.inr (j - s, l, m))
  | some (.inl f) => some (.inl (f - s))
  | none => none
theorem d_bind_dS {s : Int} {r : Option dR} {k k' : Int → Int → dM → Option dR} (h : ∀ j l m, r = some (.inr (j, l, m)) → k' (j - s) l m = dS s (k j l m)) : d_bind (dS s r) k' = dS s (d_bind r k) := by
  match r, h with
  | none, _ => rfl
  | some (.inl f), _ => rfl
  | some (.inr (j, l, m)), h => exact h j l m rfl
theorem d_nots_sh {c c' : Int → Int} {s i0 : Int} (hc : ∀ k, i0 ≤ k → c' k = c (k + s)) : ∀ (n : Nat) (i : Int) (b : Bool), i0 ≤ i → (d_nots c' n i b).1 = (d_nots c n (i + s) b).1 - s ∧ (d_nots c' n i b).2 = (d_nots c n (i + s) b).2
  | 0, i, b, _ => ⟨by show i = i + s - s; omega, rfl⟩
  | n + 1, i, b, hi => by
    unfold d_nots
    rw [hc i hi]
    split
    · have := d_nots_sh hc n (i + 1) (!b) (by omega)
      rw [show i + s + 1 = i + 1 + s by omega]
      exact this
    · exact ⟨by show i = i + s - s; omega, rfl⟩
theorem dn_sh {od : Bool} {c c' x x' : Int → Int} {s i0 : Int} (hc : ∀ k, i0 ≤ k → c' k = c (k + s)) (hx : ∀ k, i0 ≤ k → x' k = x (k + s)) : ∀ (n k : Nat) (o i l : Int) (a : dM), k ≤ 10 → i0 ≤ i → dn od c' x' n k o i l a = dS s (dn od c x n k o (i + s) l a) := by
  intro n
  induction n with
  | zero => intro k o i l a hk hi; rfl
  | succ n ih =>
    intro k o i l a hk hi
    have e0 := hc i hi
    have ge := @dn_ge od c x n
    have key : ∀ (k1 k2 : Nat) (o1 o2 i1 l1 : Int) (f : Int → Int → dM → dM), k1 ≤ 10 → k2 ≤ 10 → i0 ≤ i1 → d_bind (dn od c' x' n k1 o1 i1 l1 d_0) (fun j l m => dn od c' x' n k2 o2 j l (f j l m)) = dS s (d_bind (dn od c x n k1 o1 (i1 + s) l1 d_0) (fun j l m => dn od c x n k2 o2 j l (f (j - s) l m))) := by
      intro k1 k2 o1 o2 i1 l1 f h1 h2 h3
      rw [ih k1 o1 i1 l1 d_0 h1 h3]
      refine d_bind_dS (fun j l m hr => ?_)
      have := (ge k1 _ _ _ _ _ _ _ h1 hr).1
      rw [ih k2 o2 (j - s) l (f (j - s) l m) h2 (by omega), show j - s + s = j by omega]
    have hk' : k = 0 ∨ k = 1 ∨ k = 2 ∨ k = 3 ∨ k = 4 ∨ k = 5 ∨ k = 6 ∨ k = 7 ∨ k = 8 ∨ k = 9 ∨ k = 10 := by omega
    rcases hk' with rfl | rfl | rfl | rfl | rfl | rfl | rfl | rfl | rfl | rfl | rfl
    · rw [dn_0, dn_0, e0, hx i hi, hc (i + 1) (by omega), hx (i + 1) (by omega), show i + 1 + s = i + s + 1 by omega]
      split
      · split
        · show some (Sum.inl i) = some (Sum.inl (i + s - s))
          rw [show i + s - s = i by omega]
        · rw [ih 3 (o + 1) (i + 1) l d_0 (by decide) (by omega), show i + 1 + s = i + s + 1 by omega]
          refine d_bind_dS (fun j l m hr => ?_)
          have := (ge 3 _ _ _ _ _ _ _ (by decide) hr).1
          rw [hc (j - s) (by omega), show j - s + s = j by omega]
          split
          · show some (Sum.inr (j - s + 1, l, m)) = some (Sum.inr (j + 1 - s, l, m))
            rw [show j - s + 1 = j + 1 - s by omega]
          · rfl
      · split
        · split
          · show some (Sum.inl i) = some (Sum.inl (i + s - s))
            rw [show i + s - s = i by omega]
          · split
            · split
              · show some (Sum.inr (i + 2, _, _)) = some (Sum.inr (i + s + 2 - s, _, _))
                rw [show i + s + 2 - s = i + 2 by omega]
              · show some (Sum.inl (i + 1)) = some (Sum.inl (i + s + 1 - s))
                rw [show i + s + 1 - s = i + 1 by omega]
            · show some (Sum.inr (i + 1, _, _)) = some (Sum.inr (i + s + 1 - s, _, _))
              rw [show i + s + 1 - s = i + 1 by omega]
        · show some (Sum.inl i) = some (Sum.inl (i + s - s))
          rw [show i + s - s = i by omega]
    · rw [dn_1, dn_1]
      exact key 0 2 o o i l (fun _ _ m => m) (by decide) (by decide) hi
    · rw [dn_2, dn_2, e0]
      split
      · rw [show i + s + 1 = i + 1 + s by omega]
        exact key 0 2 o o (i + 1) l (fun _ _ m => d_op (d_tw (c (i + s))) a m) (by decide) (by decide) (by omega)
      · show some (Sum.inr (i, l, a)) = some (Sum.inr (i + s - s, l, a))
        rw [show i + s - s = i by omega]
    · rw [dn_3, dn_3]
      exact key 1 4 o o i l (fun _ _ m => m) (by decide) (by decide) hi
    · rw [dn_4, dn_4, e0]
      split
      · rw [show i + s + 1 = i + 1 + s by omega]
        exact key 1 4 o o (i + 1) l (fun _ _ m => d_op (d_sw (c (i + s))) a m) (by decide) (by decide) (by omega)
      · show some (Sum.inr (i, l, a)) = some (Sum.inr (i + s - s, l, a))
        rw [show i + s - s = i by omega]
    · have hns := d_nots_sh hc 401 i false hi
      have hge := d_nots_ge c 401 (i + s) false
      rw [dn_5, dn_5, ih 6 o (d_nots c' 401 i false).1 l d_0 (by decide) (by omega), hns.1, hns.2, show (d_nots c 401 (i + s) false).1 - s + s = (d_nots c 401 (i + s) false).1 by omega]
      exact d_bind_dS (fun j l m hr => rfl)
    · rw [dn_6, dn_6, e0]
      split
      · split
        · show some (Sum.inl i) = some (Sum.inl (i + s - s))
          rw [show i + s - s = i by omega]
        · rw [ih 9 (o + 1) (i + 1) l d_0 (by decide) (by omega), show i + 1 + s = i + s + 1 by omega]
          refine d_bind_dS (fun j l m hr => ?_)
          have := (ge 9 _ _ _ _ _ _ _ (by decide) hr).1
          rw [hc (j - s) (by omega), show j - s + s = j by omega]
          split
          · show some (Sum.inr (j - s + 1, l, m)) = some (Sum.inr (j + 1 - s, l, m))
            rw [show j - s + 1 = j + 1 - s by omega]
          · rfl
      · rw [ih 3 o i l d_0 (by decide) hi]
        refine d_bind_dS (fun j l m hr => ?_)
        have := (ge 3 _ _ _ _ _ _ _ (by decide) hr).1
        rw [hc (j - s) (by omega), show j - s + s = j by omega]
        split
        · rw [ih 3 o (j - s + 1) l d_0 (by decide) (by omega), show j - s + 1 + s = j + 1 by omega]
          exact d_bind_dS (fun j2 l2 m2 hr2 => rfl)
        · rfl
    · rw [dn_7, dn_7]
      exact key 5 8 o o i l (fun _ _ m => m) (by decide) (by decide) hi
    · rw [dn_8, dn_8, e0]
      split
      · rw [show i + s + 1 = i + 1 + s by omega]
        exact key 5 8 o o (i + 1) l (fun _ _ m => d_and a m) (by decide) (by decide) (by omega)
      · show some (Sum.inr (i, l, a)) = some (Sum.inr (i + s - s, l, a))
        rw [show i + s - s = i by omega]
    · rw [dn_9, dn_9]
      exact key 7 10 o o i l (fun _ _ m => m) (by decide) (by decide) hi
    · rw [dn_10, dn_10, e0]
      split
      · rw [show i + s + 1 = i + 1 + s by omega]
        exact key 7 10 o o (i + 1) l (fun _ _ m => d_or a m) (by decide) (by decide) (by omega)
      · show some (Sum.inr (i, l, a)) = some (Sum.inr (i + s - s, l, a))
        rw [show i + s - s = i by omega]
def dSq (s : Int) (r : Option dQ) : Option dQ := match r with
  | some (.inr (j, l, m)) => some (.inr (j - s, l, m))
  | some (.inl f) => some (.inl (f - s))
  | none => none
theorem d_bq_dS {s : Int} {r : Option dR} {k k' : Int → Int → dM → Option dQ} (h : ∀ j l m, r = some (.inr (j, l, m)) → k' (j - s) l m = dSq s (k j l m)) : d_bq (dS s r) k' = dSq s (d_bq r k) := by
  match r, h with
  | none, _ => rfl
  | some (.inl f), _ => rfl
  | some (.inr (j, l, m)), h => exact h j l m rfl
section Sh
variable {od : Bool} {c c' x x' : Int → Int} {s i0 : Int}
theorem d_if_sh (hc : ∀ k, i0 ≤ k → c' k = c (k + s)) (hx : ∀ k, i0 ≤ k → x' k = x (k + s)) (n : Nat) {i : Int} (l K t : Int) (a b : dM) (hi : i0 ≤ i) : d_if od c' x' n i l K t a b = dSq s (d_if od c x n (i + s) l K t a b) := by
  unfold d_if
  rw [hc i hi]
  split
  · rw [dn_sh hc hx n 9 0 (i + 1) l d_0 (by decide) (by omega), show i + 1 + s = i + s + 1 by omega]
    exact d_bq_dS (fun j l m hr => rfl)
  · show some (Sum.inr (i, _)) = some (Sum.inr (i + s - s, _))
    rw [show i + s - s = i by omega]
theorem d_law_sh (hc : ∀ k, i0 ≤ k → c' k = c (k + s)) (hx : ∀ k, i0 ≤ k → x' k = x (k + s)) (n : Nat) {i : Int} (l : Int) (hi : i0 ≤ i) : d_law c' x' n i l = dSq s (d_law c x n (i + s) l) := by
  unfold d_law
  rw [hc i hi]
  split
  · rw [dn_sh hc hx n 3 0 (i + 1) l d_0 (by decide) (by omega), show i + 1 + s = i + s + 1 by omega]
    refine d_bq_dS (fun j l m hr => ?_)
    have := (dn_ge n 3 _ _ _ _ _ _ _ (by decide) hr).1
    rw [d_if_sh hc hx n l _ _ _ _ (show i0 ≤ j - s by omega), show j - s + s = j by omega]
  · split
    · rw [d_if_sh hc hx n l _ _ _ _ (show i0 ≤ i + 1 by omega), show i + 1 + s = i + s + 1 by omega]
    · show some (Sum.inl i) = some (Sum.inl (i + s - s))
      rw [show i + s - s = i by omega]
theorem dSq_r {r : Option dQ} {j l : Int} {q : dC} (h : dSq s r = some (.inr (j, l, q))) : r = some (.inr (j + s, l, q)) := by
  match r, h with
  | some (.inr (j1, l1, q1)), h =>
    have e : j1 - s = j ∧ l1 = l ∧ q1 = q := by cases h; exact ⟨rfl, rfl, rfl⟩
    rw [← e.1, e.2.1, e.2.2, show j1 - s + s = j1 by omega]
theorem d_law_gt {n : Nat} {i l j l' : Int} {q : dC} (h : d_law c x n i l = some (.inr (j, l', q))) : i < j := by
  rcases d_law_r h with ⟨-, j1, l1, m1, h1, h2⟩ | ⟨-, h2⟩
  · have g1 := (dn_ge n 3 _ _ _ _ _ _ _ (by decide) h1).1
    rcases d_if_r h2 with ⟨-, m2, h3, -⟩ | ⟨-, h3, -⟩
    · have g2 := (dn_ge n 9 _ _ _ _ _ _ _ (by decide) h3).1
      omega
    · omega
  · rcases d_if_r h2 with ⟨-, m2, h3, -⟩ | ⟨-, h3, -⟩
    · have g2 := (dn_ge n 9 _ _ _ _ _ _ _ (by decide) h3).1
      omega
    · omega
/-- clauses that stand here stand there -/
theorem LSd_sh (hc : ∀ k, i0 ≤ k → c' k = c (k + s)) (hx : ∀ k, i0 ≤ k → x' k = x (k + s)) {N : Int} : ∀ (Cs : List dC) (i : Int), i0 ≤ i → LSd c' x' N i Cs → LSd c x (N + s) (i + s) Cs
  | [], i, _, h => by
    have h' : N ≤ i := h
    show N + s ≤ i + s
    omega
  | q :: Cs, i, hi, h => by
    obtain ⟨h1, n, l, l', j, h2, h3⟩ := h
    have g := d_law_gt h2
    rw [d_law_sh hc hx n l hi] at h2
    have t := LSd_sh hc hx Cs (j + 1) (by omega) h3
    rw [show j + 1 + s = j + s + 1 by omega] at t
    exact ⟨by omega, n, l, l', j + s, dSq_r h2, t⟩
end Sh
