/-! texts of orders read elsewhere; what a whole text's reading gives -/
section Sho
variable {c c' x x' : Int → Int} {s i0 : Int}
theorem d_times_sh (hc : ∀ k, i0 ≤ k → c' k = c (k + s)) (hx : ∀ k, i0 ≤ k → x' k = x (k + s)) (n : Nat) {i : Int} (l K : Int) (a b : dM) (hi : i0 ≤ i) : d_times c' x' n i l K a b = dSq s (d_times c x n (i + s) l K a b) := by
  unfold d_times
  rw [hc i hi, hc (i + 1) (by omega), hx (i + 1) (by omega), show i + 1 + s = i + s + 1 by omega]
  split
  · split
    · rw [d_if_sh hc hx n l _ _ _ _ (show i0 ≤ i + 2 by omega), show i + 2 + s = i + s + 2 by omega]
    · show some (Sum.inl (i + 1)) = some (Sum.inl (i + s + 1 - s))
      rw [show i + s + 1 - s = i + 1 by omega]
  · exact d_if_sh hc hx n l _ _ _ _ hi
theorem d_two_sh (hc : ∀ k, i0 ≤ k → c' k = c (k + s)) (hx : ∀ k, i0 ≤ k → x' k = x (k + s)) (n : Nat) {i : Int} (w l K : Int) (hi : i0 ≤ i) : d_two c' x' n w i l K = dSq s (d_two c x n w (i + s) l K) := by
  unfold d_two
  rw [dn_sh hc hx n 3 0 (i + 1) l d_0 (by decide) (by omega), show i + 1 + s = i + s + 1 by omega]
  refine d_bq_dS (fun j l m hr => ?_)
  have g := (dn_ge n 3 _ _ _ _ _ _ _ (by decide) hr).1
  rw [hc (j - s) (by omega), show j - s + s = j by omega]
  split
  · rw [dn_sh hc hx n 3 0 (j - s + 1) l d_0 (by decide) (by omega), show j - s + 1 + s = j + 1 by omega]
    refine d_bq_dS (fun j2 l2 m2 hr2 => ?_)
    have g2 := (dn_ge n 3 _ _ _ _ _ _ _ (by decide) hr2).1
    rw [d_times_sh hc hx n l2 K m m2 (show i0 ≤ j2 - s by omega), show j2 - s + s = j2 by omega]
  · rfl
theorem d_order_sh (hc : ∀ k, i0 ≤ k → c' k = c (k + s)) (hx : ∀ k, i0 ≤ k → x' k = x (k + s)) (n : Nat) {i : Int} (l : Int) (hi : i0 ≤ i) : d_order c' x' n i l = dSq s (d_order c x n (i + s) l) := by
  unfold d_order
  rw [hc i hi]
  split
  · rw [dn_sh hc hx n 3 0 (i + 1) l d_0 (by decide) (by omega), show i + 1 + s = i + s + 1 by omega]
    refine d_bq_dS (fun j l m hr => ?_)
    have g := (dn_ge n 3 _ _ _ _ _ _ _ (by decide) hr).1
    rw [d_times_sh hc hx n l 0 m d_1 (show i0 ≤ j - s by omega), show j - s + s = j by omega]
  split
  · exact d_two_sh hc hx n 24 l 2 hi
  split
  · exact d_two_sh hc hx n 26 l 3 hi
  split
  · rw [d_times_sh hc hx n l 1 d_1 d_1 (show i0 ≤ i + 1 by omega), show i + 1 + s = i + s + 1 by omega]
  · show some (Sum.inl i) = some (Sum.inl (i + s - s))
    rw [show i + s - s = i by omega]
theorem dSq_0 (r : Option dQ) : dSq 0 r = r := by
  match r with
  | none => rfl
  | some (.inl f) => show some (Sum.inl (f - 0)) = _; rw [Int.sub_zero]
  | some (.inr (j, l, q)) => show some (Sum.inr (j - 0, l, q)) = _; rw [Int.sub_zero]
/-- what lies ahead doesn't matter -/
theorem d_order_eq (hc : ∀ k, i0 ≤ k → c' k = c k) (hx : ∀ k, i0 ≤ k → x' k = x k) (n : Nat) {i : Int} (l : Int) (hi : i0 ≤ i) : d_order c' x' n i l = d_order c x n i l := by
  have t := d_order_sh (s := 0) (c := c) (c' := c') (x := x) (x' := x') (fun k hk => (hc k hk).trans (by rw [Int.add_zero])) (fun k hk => (hx k hk).trans (by rw [Int.add_zero])) n l hi
  rw [dSq_0, Int.add_zero] at t
  exact t
theorem d_times_gt {n : Nat} {i l K j l' : Int} {a b : dM} {q : dC} (h : d_times c x n i l K a b = some (.inr (j, l', q))) : i ≤ j := by
  unfold d_times at h
  have key : ∀ {i1 t : Int}, d_if true c x n i1 l K t a b = some (.inr (j, l', q)) → i1 ≤ j := by
    intro i1 t hq
    rcases d_if_r hq with ⟨-, m2, h3, -⟩ | ⟨-, h3, -⟩
    · have g2 := (dn_ge n 9 _ _ _ _ _ _ _ (by decide) h3).1
      omega
    · omega
  split at h
  · split at h
    · have := key h; omega
    · cases h
  · exact key h
theorem d_two_gt {n : Nat} {w i l K j l' : Int} {q : dC} (h : d_two c x n w i l K = some (.inr (j, l', q))) : i < j := by
  unfold d_two at h
  obtain ⟨j1, l1, m1, h1, h2⟩ := d_bq_r h
  have g1 := (dn_ge n 3 _ _ _ _ _ _ _ (by decide) h1).1
  split at h2
  · obtain ⟨j2, l2, m2, h3, h4⟩ := d_bq_r h2
    have g2 := (dn_ge n 3 _ _ _ _ _ _ _ (by decide) h3).1
    have g3 := d_times_gt h4
    omega
  · cases h2
theorem d_order_gt {n : Nat} {i l j l' : Int} {q : dC} (h : d_order c x n i l = some (.inr (j, l', q))) : i < j := by
  unfold d_order at h
  split at h
  · obtain ⟨j1, l1, m1, h1, h2⟩ := d_bq_r h
    have g1 := (dn_ge n 3 _ _ _ _ _ _ _ (by decide) h1).1
    have g3 := d_times_gt h2
    omega
  split at h
  · exact d_two_gt h
  split at h
  · exact d_two_gt h
  split at h
  · have := d_times_gt h; omega
  · cases h
theorem d_cl_gt {od : Bool} {n : Nat} {i l j l' : Int} {q : dC} (h : d_cl od c x n i l = some (.inr (j, l', q))) : i < j := by
  cases od with
  | false => exact d_law_gt h
  | true => exact d_order_gt h
/-- clauses of either language stand in the tokens from i to N -/
def LSc (od : Bool) (c x : Int → Int) (N : Int) : Int → List dC → Prop
  | i, [] => N ≤ i
  | i, q :: r => i < N ∧ ∃ (n : Nat) (l l' j : Int), d_cl od c x n i l = some (.inr (j, l', q)) ∧ LSc od c x N (j + 1) r
theorem LSc_d {c x : Int → Int} {N : Int} : ∀ (Cs : List dC) (i : Int), LSc false c x N i Cs → LSd c x N i Cs
  | [], _, h => h
  | q :: r, i, h => by
    obtain ⟨h1, n, l, l', j, h2, h3⟩ := h
    exact ⟨h1, n, l, l', j, h2, LSc_d r (j + 1) h3⟩
theorem d_cl_sh {od : Bool} (hc : ∀ k, i0 ≤ k → c' k = c (k + s)) (hx : ∀ k, i0 ≤ k → x' k = x (k + s)) (n : Nat) {i : Int} (l : Int) (hi : i0 ≤ i) : d_cl od c' x' n i l = dSq s (d_cl od c x n (i + s) l) := by
  cases od with
  | false => exact d_law_sh hc hx n l hi
  | true => exact d_order_sh hc hx n l hi
theorem LSc_sh {od : Bool} (hc : ∀ k, i0 ≤ k → c' k = c (k + s)) (hx : ∀ k, i0 ≤ k → x' k = x (k + s)) {N : Int} : ∀ (Cs : List dC) (i : Int), i0 ≤ i → LSc od c' x' N i Cs → LSc od c x (N + s) (i + s) Cs
  | [], i, _, h => by
    have h' : N ≤ i := h
    show N + s ≤ i + s
    omega
  | q :: Cs, i, hi, h => by
    obtain ⟨h1, n, l, l', j, h2, h3⟩ := h
    have g := d_cl_gt h2
    rw [d_cl_sh hc hx n l hi] at h2
    have t := LSc_sh hc hx Cs (j + 1) (by omega) h3
    rw [show j + 1 + s = j + s + 1 by omega] at t
    exact ⟨by omega, n, l, l', j + s, dSq_r h2, t⟩
/-- what is known of a clause that was read -/
theorem d_if_lt {od : Bool} {n : Nat} {N i l K t j l' : Int} {a b : dM} {q : dC} (hN : ∀ k, N ≤ k → c k = 0) (hi : i ≤ N) (h : d_if od c x n i l K t a b = some (.inr (j, l', q))) : j ≤ N ∧ q.1 = K ∧ q.2.1 = t := by
  rcases d_if_r h with ⟨h5, m2, h3, e⟩ | ⟨-, h3, -, e⟩
  · have hin : i + 1 ≤ N := by
      by_cases z : N ≤ i
      · have := hN i z; omega
      · omega
    have g2 := dn_le hN n 9 _ _ _ _ _ _ _ (by decide) hin h3
    rw [e]
    exact ⟨g2, rfl, rfl⟩
  · rw [e]
    exact ⟨by omega, rfl, rfl⟩
theorem tok_lt {c : Int → Int} {N i : Int} (hN : ∀ k, N ≤ k → c k = 0) (h : ¬ c i = 0) : i + 1 ≤ N := by
  by_cases z : N ≤ i
  · exact absurd (hN i z) h
  · omega
theorem d_law_ok {n : Nat} {N i l j l' : Int} {q : dC} (hN : ∀ k, N ≤ k → c k = 0) (h : d_law c x n i l = some (.inr (j, l', q))) : i < N ∧ j ≤ N ∧ (0 ≤ q.1 ∧ q.1 ≤ 3) ∧ q.2.1 = 1 := by
  rcases d_law_r h with ⟨hc, j1, l1, m1, h1, h2⟩ | ⟨hc, h2⟩
  · have hin := tok_lt hN (i := i) (by omega)
    have g1 := dn_le hN n 3 _ _ _ _ _ _ _ (by decide) hin h1
    obtain ⟨a1, a2, a3⟩ := d_if_lt hN g1 h2
    exact ⟨by omega, a1, by omega, a3⟩
  · have hin := tok_lt hN (i := i) (by omega)
    obtain ⟨a1, a2, a3⟩ := d_if_lt hN hin h2
    exact ⟨by omega, a1, by omega, a3⟩
theorem d_times_lt {n : Nat} {N i l K j l' : Int} {a b : dM} {q : dC} (hN : ∀ k, N ≤ k → c k = 0) (hi : i ≤ N) (h : d_times c x n i l K a b = some (.inr (j, l', q))) : j ≤ N ∧ q.1 = K ∧ 1 ≤ q.2.1 ∧ q.2.1 ≤ 20 := by
  unfold d_times at h
  split at h
  · split at h
    · rename_i hc hx
      have hin := tok_lt hN (i := i + 1) (by omega)
      obtain ⟨a1, a2, a3⟩ := d_if_lt hN (i := i + 2) (by omega) h
      exact ⟨a1, a2, by omega⟩
    · cases h
  · obtain ⟨a1, a2, a3⟩ := d_if_lt hN hi h
    exact ⟨a1, a2, by omega⟩
theorem d_two_lt {n : Nat} {N w i l K j l' : Int} {q : dC} (hw : ¬ w = 0) (hN : ∀ k, N ≤ k → c k = 0) (hi : i + 1 ≤ N) (h : d_two c x n w i l K = some (.inr (j, l', q))) : j ≤ N ∧ q.1 = K ∧ 1 ≤ q.2.1 ∧ q.2.1 ≤ 20 := by
  unfold d_two at h
  obtain ⟨j1, l1, m1, h1, h2⟩ := d_bq_r h
  split at h2
  · rename_i hc
    have hin := tok_lt hN (i := j1) (by omega)
    obtain ⟨j2, l2, m2, h3, h4⟩ := d_bq_r h2
    have g2 := dn_le hN n 3 _ _ _ _ _ _ _ (by decide) hin h3
    exact d_times_lt hN g2 h4
  · cases h2
theorem d_order_ok {n : Nat} {N i l j l' : Int} {q : dC} (hN : ∀ k, N ≤ k → c k = 0) (h : d_order c x n i l = some (.inr (j, l', q))) : i < N ∧ j ≤ N ∧ (0 ≤ q.1 ∧ q.1 ≤ 3) ∧ 1 ≤ q.2.1 ∧ q.2.1 ≤ 20 := by
  unfold d_order at h
  split at h
  · rename_i hc
    have hin := tok_lt hN (i := i) (by omega)
    obtain ⟨j1, l1, m1, h1, h2⟩ := d_bq_r h
    have g1 := dn_le hN n 3 _ _ _ _ _ _ _ (by decide) hin h1
    obtain ⟨a1, a2, a3⟩ := d_times_lt hN g1 h2
    exact ⟨by omega, a1, by omega, a3⟩
  split at h
  · have hin := tok_lt hN (i := i) (by omega)
    obtain ⟨a1, a2, a3⟩ := d_two_lt (by decide) hN hin h
    exact ⟨by omega, a1, by omega, a3⟩
  split at h
  · have hin := tok_lt hN (i := i) (by omega)
    obtain ⟨a1, a2, a3⟩ := d_two_lt (by decide) hN hin h
    exact ⟨by omega, a1, by omega, a3⟩
  split at h
  · have hin := tok_lt hN (i := i) (by omega)
    obtain ⟨a1, a2, a3⟩ := d_times_lt hN hin h
    exact ⟨by omega, a1, by omega, a3⟩
  · cases h
theorem d_cl_ok {od : Bool} {n : Nat} {N i l j l' : Int} {q : dC} (hN : ∀ k, N ≤ k → c k = 0) (h : d_cl od c x n i l = some (.inr (j, l', q))) : i < N ∧ j ≤ N ∧ (0 ≤ q.1 ∧ q.1 ≤ 3) ∧ 1 ≤ q.2.1 ∧ q.2.1 ≤ 20 := by
  cases od with
  | false =>
    obtain ⟨a1, a2, a3, a4⟩ := d_law_ok hN h
    exact ⟨a1, a2, a3, by omega⟩
  | true => exact d_order_ok hN h
theorem DCR_s {od : Bool} {n : Nat} {N : Int} (hN : ∀ k, N ≤ k → c k = 0) : ∀ (p : Nat) (i l : Int) (Cs : List dC), DCR od c x n N p i l (.inr Cs) → LSc od c x N i Cs
  | 0, i, l, Cs, h => nomatch h
  | p + 1, i, l, Cs, h => by
    rcases h with ⟨f, h1, h2⟩ | ⟨j, l', q, y, h1, h2, h3⟩
    · cases h2
    · have ok := d_cl_ok hN h1
      match y, h3 with
      | .inl f, h3 => cases h3
      | .inr r, h3 =>
        cases h3
        rcases d_rest_d h2 with ⟨h4, h5⟩ | ⟨h4, h5⟩
        · exact ⟨ok.1, n, l, l', j, h1, DCR_s hN p (j + 1) l' r h5⟩
        · rcases h5 with ⟨_, h6⟩ | ⟨h6, h7⟩
          · cases h6
          · cases h7
            exact ⟨ok.1, n, l, l', j, h1, (show N ≤ j + 1 by omega)⟩
/-- a whole text's clauses stand in its tokens -/
theorem d_all_s {od : Bool} {n : Nat} {N : Int} {Cs : List dC} (hN : ∀ k, N ≤ k → c k = 0) (h : d_all od c x n N = some (.inr Cs)) : LSc od c x N 0 Cs := DCR_s hN 12 0 0 Cs (d_all_d h)
theorem DCR_len {od : Bool} {n : Nat} {N : Int} : ∀ (p : Nat) (i l : Int) (Cs : List dC), DCR od c x n N p i l (.inr Cs) → Cs.length ≤ p
  | 0, i, l, Cs, h => nomatch h
  | p + 1, i, l, Cs, h => by
    rcases h with ⟨f, h1, h2⟩ | ⟨j, l', q, y, h1, h2, h3⟩
    · cases h2
    · match y, h3 with
      | .inl f, h3 => cases h3
      | .inr r, h3 =>
        cases h3
        rcases d_rest_d h2 with ⟨h4, h5⟩ | ⟨h4, h5⟩
        · have := DCR_len p (j + 1) l' r h5
          show r.length + 1 ≤ p + 1
          omega
        · rcases h5 with ⟨_, h6⟩ | ⟨h6, h7⟩
          · cases h6
          · cases h7
            show 0 + 1 ≤ p + 1
            omega
end Sho
