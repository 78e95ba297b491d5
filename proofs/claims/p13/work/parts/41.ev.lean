/-! the reference reads its tokens: what is told of it -/
/-- codes, values, as it walks along them -/
def EC (v : Nat → Int) (R : Nat → Int → Int) : Int → Int := fun i => if i < v 23 then R 2 (121 + i) else 0
def EX (R : Nat → Int → Int) : Int → Int := fun i => R 2 (2921 + i)
/-- a word of orders -/
def e_ov (v : Nat → Int) (R : Nat → Int → Int) (c k : Int) : Int := if c = 14 then (if 0 ≤ k ∧ k ≤ R 2 110 - 1 then R 2 (0 + k) else -1) else if c = 15 then (if 0 ≤ k ∧ k ≤ R 2 110 - 1 then R 13 k else -1) else if c = 16 then R 2 70 else if c = 17 then v 27 else if c = 18 then v 28 else if c = 19 then R 2 69 else kp_wlk (R 2) (R 2 68).toNat
/-- the words' numbers stand where it looks -/
def EVE (od : Bool) (v : Nat → Int) (R : Nat → Int → Int) (e : Int → Int) : Prop := match od with
  | false => v 25 = 0 ∧ ∀ c, 9 ≤ c → c ≤ 16 → R 12 (c - 9) = e (d_wi false c)
  | true => v 25 = 1 ∧ (∀ c k, (c = 14 ∨ c = 15) → 0 ≤ k → k ≤ 9 → e_ov v R c k = e (d_wi true c + k)) ∧ ∀ c, 16 ≤ c → c ≤ 20 → e_ov v R c 0 = e (d_wi true c)
def EPR (od : Bool) (v : Nat → Int) (R : Nat → Int → Int) (e : Int → Int) : Prop := (0 ≤ v 23 ∧ v 23 ≤ 2800) ∧ EVE od v R e ∧ WOK e ∧ (0 ≤ R 2 110 ∧ R 2 110 ≤ 10) ∧ (0 ≤ R 2 68 ∧ R 2 68 ≤ 16) ∧ (∀ g, 0 ≤ g → g < R 2 68 → 0 ≤ R 2 (20 + 3 * g + 1) ∧ R 2 (20 + 3 * g + 1) ≤ 98) ∧ (∀ i, 0 ≤ i → i < 2800 → 0 ≤ R 2 (121 + i) ∧ R 2 (121 + i) ≤ 1000) ∧ (∀ i, 0 ≤ i → i < 2800 → 0 ≤ R 2 (2921 + i) ∧ R 2 (2921 + i) ≤ 100000000)
/-- where it is, whether broken -/
def EW (v : Nat → Int) (j b : Int) : Nat → Int := pl_U (pl_U v 22 j) 24 b
def e_bq (z live b : Int) : Int := if live = 1 ∧ (1000000000 < z ∨ z < -1000000000) then 1 else b
/-- a sum's number -/
def EG (live b0 b y : Int) (m : dM) (e : Int → Int) : Prop := (b = 0 ∨ b = 1) ∧ (b0 = 1 → b = 1) ∧ (-1000000000 ≤ y ∧ y ≤ 1000000000) ∧ (live = 0 → b = b0) ∧ (live = 0 ∨ b = 1 → y = 0) ∧ (live = 1 → b0 = 0 → (b = 0 ∧ m e = some y) ∨ (b = 1 ∧ m e = none))
/-- a test's -/
def ET (live b0 b z : Int) (m : dM) (e : Int → Int) : Prop := (b = 0 ∨ b = 1) ∧ (b0 = 1 → b = 1) ∧ (z = 0 ∨ z = 1) ∧ (live = 0 → b = b0) ∧ (live = 1 → b0 = 0 → (b = 0 ∧ m e = some z) ∨ (b = 1 ∧ m e = none))
theorem EC_b {od : Bool} {v : Nat → Int} {R : Nat → Int → Int} {e : Int → Int} (h : EPR od v R e) {i : Int} (hi : 0 ≤ i) : 0 ≤ EC v R i ∧ EC v R i ≤ 1000 := by
  obtain ⟨h1, -, -, -, -, -, h7, -⟩ := h
  unfold EC
  split
  · exact h7 i hi (by omega)
  · exact ⟨by decide, by decide⟩
theorem EC_in {v : Nat → Int} {R : Nat → Int → Int} {i : Int} (h : ¬ EC v R i = 0) : i < v 23 := by
  by_cases hh : i < v 23
  · exact hh
  · exact absurd (if_neg hh) h
theorem mc_far_2 {z : Int} : (mc_far z).2 = 0 ↔ ¬ (1000000000 < z ∨ z < -1000000000) := by
  unfold mc_far
  split
  · rename_i h; exact ⟨fun q => absurd q (by decide), fun q => absurd h q⟩
  · rename_i h; exact ⟨fun _ => h, fun _ => rfl⟩
theorem mc_far_1 {z : Int} (h : ¬ (1000000000 < z ∨ z < -1000000000)) : (mc_far z).1 = z := by
  unfold mc_far
  rw [if_neg h]
theorem EG_op {live b0 b b1 b2 y x z w : Int} {a m : dM} {e : Int → Int} (hl : live = 0 ∨ live = 1) (h1 : EG live b0 b y a e) (h2 : EG live b b1 x m e) (hb : b2 = b1 ∨ (b2 = 1 ∧ live = 1)) (hz : live = 0 → z = 0) (hc : live = 1 → b2 = 0 → mc_cb w y x = mc_far z) (hx : live = 1 → b2 = 1 → b1 = 0 → (mc_cb w y x).2 = 1) : EG live b0 (e_bq z live b2) (if e_bq z live b2 = 0 then z else 0) (d_op w a m) e := by
  obtain ⟨a1, a2, a3, a4, a5, a6⟩ := h1
  obtain ⟨c1, c2, c3, c4, c5, c6⟩ := h2
  have hb2 : b2 = 0 ∨ b2 = 1 := by omega
  rcases hl with rfl | rfl
  · have hz := hz rfl
    have e1 : e_bq z 0 b2 = b2 := if_neg (fun q => absurd q.1 (by decide))
    have hb3 : b2 = b1 := by omega
    have a4 := a4 rfl
    have c4 := c4 rfl
    rw [e1, hz]
    refine ⟨hb2, fun q => ?_, ?_, fun _ => by omega, fun _ => ?_, fun q => absurd q (by decide)⟩
    · omega
    · split <;> decide
    · split <;> rfl
  · by_cases hq : b2 = 0
    · have hb1 : b1 = 0 := by omega
      have hb0 : b = 0 := by
        rcases a1 with q | q
        · exact q
        · have := c2 q; omega
      have hc := hc rfl hq
      have hcc := c6 rfl hb0
      have k2 : m e = some x := by
        rcases hcc with q | q
        · exact q.2
        · omega
      have k1 : b0 = 0 → a e = some y := by
        intro hb0'
        rcases a6 rfl hb0' with q | q
        · exact q.2
        · omega
      have hb00 : ¬ b0 = 1 := by intro q; have := a2 q; omega
      by_cases hf : 1000000000 < z ∨ z < -1000000000
      · have e1 : e_bq z 1 b2 = 1 := if_pos ⟨rfl, hf⟩
        rw [e1, if_neg (by decide)]
        refine ⟨Or.inr rfl, fun _ => rfl, by decide, fun q => absurd q (by decide), fun _ => rfl, fun _ q => Or.inr ⟨rfl, ?_⟩⟩
        unfold d_op
        rw [k1 q, k2]
        dsimp only
        rw [hc, if_neg (fun q => (mc_far_2.mp q) hf)]
      · have e1 : e_bq z 1 b2 = 0 := (if_neg (fun q => hf q.2)).trans hq
        rw [e1, if_pos rfl]
        refine ⟨Or.inl rfl, fun q => absurd q hb00, by omega, fun q => absurd q (by decide), fun q => by omega, fun _ q => Or.inl ⟨rfl, ?_⟩⟩
        unfold d_op
        rw [k1 q, k2]
        dsimp only
        rw [hc, if_pos (mc_far_2.mpr hf), mc_far_1 hf]
    · have hq1 : b2 = 1 := by omega
      have e1 : e_bq z 1 b2 = 1 := by
        unfold e_bq
        split
        · rfl
        · exact hq1
      rw [e1, if_neg (by decide)]
      refine ⟨Or.inr rfl, fun _ => rfl, by decide, fun q => absurd q (by decide), fun _ => rfl, fun _ q => Or.inr ⟨rfl, ?_⟩⟩
      unfold d_op
      rcases a6 rfl q with k | k
      · rw [k.2]
        rcases c6 rfl k.1 with t | t
        · rw [t.2]
          dsimp only
          have := hx rfl hq1 t.1
          rw [if_neg (by omega)]
        · rw [t.2]
      · rw [k.2]
theorem mc_cb_p (y x : Int) : mc_cb 3 y x = mc_far (y + x) := if_pos rfl
theorem mc_cb_m (y x : Int) : mc_cb 4 y x = mc_far (y - x) := by unfold mc_cb; rw [if_neg (by decide), if_pos rfl]
theorem mc_cb_t (y x : Int) : mc_cb 5 y x = mc_far (y * x) := by unfold mc_cb; rw [if_neg (by decide), if_neg (by decide), if_pos rfl]
theorem mc_cb_d (y : Int) {x : Int} (h : ¬ x = 0) : mc_cb 6 y x = mc_far (y.tdiv x) := by unfold mc_cb; rw [if_neg (by decide), if_neg (by decide), if_neg (by decide), if_neg (by decide), if_neg (by decide), if_neg (by decide), if_neg h, if_pos rfl]
theorem mc_cb_r (y : Int) {x : Int} (h : ¬ x = 0) : mc_cb 7 y x = mc_far (y.tmod x) := by unfold mc_cb; rw [if_neg (by decide), if_neg (by decide), if_neg (by decide), if_neg (by decide), if_neg (by decide), if_neg (by decide), if_neg h, if_neg (by decide)]
theorem mc_cb_z (w y : Int) (h : w = 6 ∨ w = 7) : (mc_cb w y 0).2 = 1 := by rcases h with rfl | rfl <;> rfl
theorem mc_cb_l (y x : Int) : mc_cb 8 y x = (if y < x then 1 else 0, 0) := by unfold mc_cb; rw [if_neg (by decide), if_neg (by decide), if_neg (by decide), if_pos rfl]
theorem mc_cb_g (y x : Int) : mc_cb 9 y x = (if x < y then 1 else 0, 0) := by unfold mc_cb; rw [if_neg (by decide), if_neg (by decide), if_neg (by decide), if_neg (by decide), if_pos rfl]
theorem mc_cb_e (y x : Int) : mc_cb 10 y x = (if y = x then 1 else 0, 0) := by unfold mc_cb; rw [if_neg (by decide), if_neg (by decide), if_neg (by decide), if_neg (by decide), if_neg (by decide), if_pos rfl]
/-- two sums compared -/
theorem ET_cmp {live b0 b b1 y x z w : Int} {a m : dM} {e : Int → Int} (hl : live = 0 ∨ live = 1) (h1 : EG live b0 b y a e) (h2 : EG live b b1 x m e) (hz : z = 0 ∨ z = 1) (hc : live = 1 → b1 = 0 → mc_cb w y x = (z, 0)) : ET live b0 b1 z (d_op w a m) e := by
  obtain ⟨a1, a2, a3, a4, a5, a6⟩ := h1
  obtain ⟨c1, c2, c3, c4, c5, c6⟩ := h2
  refine ⟨c1, fun q => c2 (a2 q), hz, fun q => (c4 q).trans (a4 q), fun q1 q2 => ?_⟩
  unfold d_op
  rcases a6 q1 q2 with k | k
  · rw [k.2]
    rcases c6 q1 k.1 with t | t
    · rw [t.2]
      dsimp only
      rw [hc q1 t.1]
      exact Or.inl ⟨t.1, if_pos rfl⟩
    · rw [t.2]
      exact Or.inr ⟨t.1, rfl⟩
  · rw [k.2]
    exact Or.inr ⟨c2 k.1, rfl⟩
theorem ET_not {live b0 b z : Int} {m : dM} {e : Int → Int} (h : ET live b0 b z m e) : ET live b0 b (1 - z) (d_not m) e := by
  obtain ⟨a1, a2, a3, a4, a5⟩ := h
  refine ⟨a1, a2, by omega, a4, fun q1 q2 => ?_⟩
  unfold d_not
  rcases a5 q1 q2 with k | k
  · rw [k.2]; exact Or.inl ⟨k.1, rfl⟩
  · rw [k.2]; exact Or.inr ⟨k.1, rfl⟩
theorem ET_or {live b0 b b1 y x z : Int} {a m : dM} {e : Int → Int} (h1 : ET live b0 b y a e) (h2 : ET (if live = 1 ∧ y = 0 then 1 else 0) b b1 x m e) (hz : z = if y = 1 ∨ x = 1 then 1 else 0) : ET live b0 b1 z (d_or a m) e := by
  obtain ⟨a1, a2, a3, a4, a5⟩ := h1
  obtain ⟨c1, c2, c3, c4, c5⟩ := h2
  refine ⟨c1, fun q => c2 (a2 q), ?_, fun q => ?_, fun q1 q2 => ?_⟩
  · subst hz
    split
    · exact Or.inr rfl
    · exact Or.inl rfl
  · rw [c4 (if_neg (fun t => absurd t.1 (by omega)))]; exact a4 q
  · unfold d_or
    rcases a5 q1 q2 with k | k
    · rw [k.2]
      dsimp only
      rcases a3 with rfl | rfl
      · rw [if_pos rfl]
        have hc := c5 (if_pos ⟨q1, rfl⟩) k.1
        have ez : z = x := by
          subst hz
          rcases c3 with rfl | rfl
          · rw [if_neg (by omega)]
          · rw [if_pos (Or.inr rfl)]
        rw [ez]
        exact hc
      · rw [if_neg (by decide)]
        rw [if_neg (fun t => absurd t.2 (by decide))] at c4
        have ez : z = 1 := by subst hz; rw [if_pos (Or.inl rfl)]
        rw [ez]
        exact Or.inl ⟨(c4 rfl).trans k.1, rfl⟩
    · rw [k.2]
      exact Or.inr ⟨c2 k.1, rfl⟩
theorem ET_and {live b0 b b1 y x z : Int} {a m : dM} {e : Int → Int} (h1 : ET live b0 b y a e) (h2 : ET (if live = 1 ∧ y = 1 then 1 else 0) b b1 x m e) (hz : z = if y = 1 ∧ x = 1 then 1 else 0) : ET live b0 b1 z (d_and a m) e := by
  obtain ⟨a1, a2, a3, a4, a5⟩ := h1
  obtain ⟨c1, c2, c3, c4, c5⟩ := h2
  refine ⟨c1, fun q => c2 (a2 q), ?_, fun q => ?_, fun q1 q2 => ?_⟩
  · subst hz
    split
    · exact Or.inr rfl
    · exact Or.inl rfl
  · rw [c4 (if_neg (fun t => absurd t.1 (by omega)))]; exact a4 q
  · unfold d_and
    rcases a5 q1 q2 with k | k
    · rw [k.2]
      dsimp only
      rcases a3 with rfl | rfl
      · rw [if_pos rfl]
        rw [if_neg (fun t => absurd t.2 (by decide))] at c4
        have ez : z = 0 := by subst hz; rw [if_neg (fun t => absurd t.1 (by decide))]
        rw [ez]
        exact Or.inl ⟨(c4 rfl).trans k.1, rfl⟩
      · rw [if_neg (by decide)]
        have hc := c5 (if_pos ⟨q1, rfl⟩) k.1
        have ez : z = x := by
          subst hz
          rcases c3 with rfl | rfl
          · rw [if_neg (fun t => absurd t.2 (by decide))]
          · rw [if_pos ⟨rfl, rfl⟩]
        rw [ez]
        exact hc
    · rw [k.2]
      exact Or.inr ⟨c2 k.1, rfl⟩
theorem EG_leaf {live b y : Int} {m : dM} {e : Int → Int} (hl : live = 0 ∨ live = 1) (hb : b = 0 ∨ b = 1) (hy : -1000000000 ≤ y ∧ y ≤ 1000000000) (h0 : live = 0 ∨ b = 1 → y = 0) (h1 : live = 1 → b = 0 → m e = some y) : EG live b b y m e := ⟨hb, fun q => q, hy, fun _ => rfl, h0, fun q1 q2 => Or.inl ⟨q2, h1 q1 q2⟩⟩
theorem EPR_v {od : Bool} {v : Nat → Int} {R : Nat → Int → Int} {e : Int → Int} (h : EPR od v R e) (j b : Int) : EPR od (EW v j b) R e := by
  obtain ⟨h1, h2, h3⟩ := h
  refine ⟨h1, ?_, h3⟩
  cases od with
  | false => exact h2
  | true => exact h2
theorem EC_0 {v : Nat → Int} {R : Nat → Int → Int} : ∀ k, v 23 ≤ k → EC v R k = 0 := by
  intro k h
  exact if_neg (by omega)
theorem dn_in {od : Bool} {v : Nat → Int} {R : Nat → Int → Int} {n k : Nat} {o i l j l' : Int} {a m : dM} (hk : k ≤ 10) (hi : 0 ≤ i ∧ i ≤ v 23) (h : dn od (EC v R) (EX R) n k o i l a = some (.inr (j, l', m))) : 0 ≤ j ∧ j ≤ v 23 := by
  have h1 := (dn_ge n k o i l a j l' m hk h).1
  have h2 := dn_le EC_0 n k o i l a j l' m hk hi.2 h
  exact ⟨by omega, h2⟩
theorem d_nots_8 {c : Int → Int} {i1 : Int} {b1 : Bool} (h8 : ¬ c i1 = 8) : ∀ (n : Nat) (i : Int) (b : Bool), d_nots c n i b = (i1, b1) → (c i = 8 ∧ ∃ n', n = n' + 1 ∧ d_nots c n' (i + 1) (!b) = (i1, b1)) ∨ (i = i1 ∧ b = b1)
  | 0, i, b, h => Or.inr (by cases h; exact ⟨rfl, rfl⟩)
  | n + 1, i, b, h => by
    unfold d_nots at h
    split at h
    · rename_i q
      exact Or.inl ⟨q, n, rfl, h⟩
    · cases h
      exact Or.inr ⟨rfl, rfl⟩
