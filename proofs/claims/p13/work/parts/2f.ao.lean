/-! paper: its cells; what a law tells depends on; all at once -/
def PC (o : Nat) (pv cv : Nat → Int) (b : Int) (s wd : Int → Int) (sv : Nat → Int) (sR : Nat → Int → Int) (sg : Int → Option Nat) (PR : Nat → Int → Int) : im_W := [.inl (3, [mr (o + 1), mr (o + 5), mr (o + 17), mr (o + 18), mr (o + 19), mr (o + 20), mr (o + 21), mr (o + 22), mr (o + 23), .inl (pv 0), .inl (pv 1), .inl (pv 2), .inl (pv 3), .inl (pv 4), .inl (pv 5), .inl (pv 6), .inl (pv 7), .inl (pv 8), .inl (pv 9), .inl (pv 10)])] ++ CC (o + 1) cv b s wd ++ LC (o + 5) sv sR sg ++ [.inr (0, 10, .inl (PR 0)), .inr (0, 10, .inl (PR 1)), .inr (0, 10, .inl (PR 2)), .inr (0, 100, .inl (PR 3)), .inr (2, 99, .inl (PR 4)), .inr (0, 10, .inl (PR 5)), .inr (0, 10, .inl (PR 6))]
/-- what holds of every paper -/
def PKO (b : Int) (s wd : Int → Int) (sv : Nat → Int) (sR PR : Nat → Int → Int) : Prop := (b = 0 ∨ b = 1) ∧ SOK s ∧ WOK wd ∧ LOK sv sR ∧ (0 ≤ sv 6 ∧ sv 6 ≤ 1000000) ∧ (∀ r i, -1000000 ≤ PR r i ∧ PR r i ≤ 1000000000000)
def PRB (PR : Nat → Int → Int) : Prop := ∀ r i, r ≠ 4 → -1000000 ≤ PR r i ∧ PR r i ≤ 1000000
def RQ (p : Int) (R R' : Nat → Int → Int) : Prop := R 0 p = R' 0 p ∧ R 1 p = R' 1 p ∧ R 2 p = R' 2 p ∧ R 3 p = R' 3 p ∧ R 7 0 = R' 7 0 ∧ R 7 1 = R' 7 1 ∧ R 7 3 = R' 7 3
theorem as_wd_q {p ov : Int} {R R' : Nat → Int → Int} (h : RQ p R R') : as_wd p ov R = as_wd p ov R' := by
  obtain ⟨h0, h1, h2, h3, h4, h5, h6⟩ := h
  funext i
  unfold as_wd
  rw [h0, h1, h2, h3, h4, h6]
theorem as_tens_q {lw : Option im_T} {p ten : Int} {R R' : Nat → Int → Int} (h : RQ p R R') : as_tens lw p ten R = as_tens lw p ten R' := by
  unfold as_tens
  rw [as_wd_q h, h.2.2.2.2.2.1]
theorem as_over_q {lw : Option im_T} {p ten : Int} {R R' : Nat → Int → Int} (h : RQ p R R') : as_over lw p ten R = as_over lw p ten R' := by
  unfold as_over
  rw [as_tens_q h, h.2.2.1]
theorem as_stay_q {lw : Option im_T} {p ten : Int} {R R' : Nat → Int → Int} (h : RQ p R R') : as_stay lw p ten R = as_stay lw p ten R' := by
  unfold as_stay
  rw [as_over_q h, as_wd_q h]
theorem as_steps_q {lw : Option im_T} {p ten : Int} {R R' : Nat → Int → Int} (h : RQ p R R') : as_steps lw p ten R = as_steps lw p ten R' := by
  unfold as_steps
  rw [as_over_q h, as_wd_q h]
theorem as_bar_q {lw : Option im_T} {p ten : Int} {R R' : Nat → Int → Int} (h : RQ p R R') : as_bar lw p ten R = as_bar lw p ten R' := by
  unfold as_bar
  rw [as_over_q h, as_wd_q h]
/-- who walks from a parish that may be barred -/
def as_wk (lw : Option im_T) (p ten : Int) (R : Nat → Int → Int) : Int := if as_bar lw p ten R = 0 then as_over lw p ten R - as_stay lw p ten R else 0
theorem as_wk_q {lw : Option im_T} {p ten : Int} {R R' : Nat → Int → Int} (h : RQ p R R') : as_wk lw p ten R = as_wk lw p ten R' := by
  unfold as_wk
  rw [as_over_q h, as_stay_q h, as_bar_q h]
theorem as_wk_b (lw : Option im_T) (p ten : Int) (R : Nat → Int → Int) : 0 ≤ as_wk lw p ten R ∧ as_wk lw p ten R ≤ as_over lw p ten R := by
  have h1 := as_over_b lw p ten R
  have h2 := as_stay_b lw p ten R
  unfold as_wk
  split <;> omega
abbrev ao_Q : Type := (Nat → Int) × (Nat → Int → Int) × (Int → Int) × (Int → Int)
def ao_1 (lw : Option im_T) (ten p : Int) (q : ao_Q) : ao_Q := ((pl_arr (q.2.1 0 p) (as_wk lw p ten q.2.1) q.1 (pl_leave p (as_wk lw p ten q.2.1) q.1 q.2.1)).1, (pl_arr (q.2.1 0 p) (as_wk lw p ten q.2.1) q.1 (pl_leave p (as_wk lw p ten q.2.1) q.1 q.2.1)).2, im_up q.2.2.1 p (as_over lw p ten q.2.1), im_up q.2.2.2 p (as_wk lw p ten q.2.1))
/-- at once: the first m of n parishes from the highest down -/
def ao (lw : Option im_T) (ten n : Int) : Nat → ao_Q → ao_Q
  | 0, q => q
  | m + 1, q => ao_1 lw ten (n - 1 - m) (ao lw ten n m q)
/-- one parish's count is another -/
def ao_ch (c by_ : Int) (v : Nat → Int) (R : Nat → Int → Int) : Nat → Int → Int := if 0 ≤ c ∧ c < v 0 ∧ c < 10 then pl_U R 2 (im_up (R 2) c (R 2 c + by_)) else R
def AOI (n : Int) (v0 : Nat → Int) (R0 : Nat → Int → Int) (m : Nat) (q : ao_Q) : Prop := LOK q.1 q.2.1 ∧ (q.1 0 = n ∧ q.1 5 = v0 5) ∧ (0 ≤ q.1 6 ∧ q.1 6 ≤ 98 * m) ∧ (q.2.1 0 = R0 0 ∧ q.2.1 7 = R0 7) ∧ (∀ i, -1000000 ≤ q.2.2.1 i ∧ q.2.2.1 i ≤ 1000000) ∧ (∀ i, -1000000 ≤ q.2.2.2 i ∧ q.2.2.2 i ≤ 1000000)
theorem pl_leave_row (p n : Int) (v : Nat → Int) (R : Nat → Int → Int) {j : Nat} (h2 : j ≠ 2) (h3 : j ≠ 3) : pl_leave p n v R j = R j := by
  unfold pl_leave pl_U
  split
  · simp only [h2, h3, if_false]
  · rfl
theorem pl_arr_row (p n : Int) (v : Nat → Int) (R : Nat → Int → Int) {j : Nat} (h2 : j ≠ 2) : (pl_arr p n v R).2 j = R j := by
  unfold pl_arr pl_U
  split
  · simp only [h2, if_false]
  · rfl
theorem pl_arr_v (p n : Int) (v : Nat → Int) (R : Nat → Int → Int) {j : Nat} (h2 : j ≠ 2) (h6 : j ≠ 6) : (pl_arr p n v R).1 j = v j := by
  unfold pl_arr pl_U
  split
  · rfl
  · simp only [h2, h6, if_false]
theorem pl_arr_6 (p n : Int) (v : Nat → Int) (R : Nat → Int → Int) : (pl_arr p n v R).1 6 = v 6 ∨ (pl_arr p n v R).1 6 = v 6 + n := by
  unfold pl_arr
  split
  · exact Or.inl rfl
  · exact Or.inr rfl
theorem AOI_1 {lw : Option im_T} {ten n : Int} {v0 : Nat → Int} {R0 : Nat → Int → Int} {m : Nat} {q : ao_Q} (h : AOI n v0 R0 m q) (p : Int) : AOI n v0 R0 (m + 1) (ao_1 lw ten p q) := by
  obtain ⟨h1, h2, h3, h4, h5, h6⟩ := h
  have ho := as_over_b lw p ten q.2.1
  have hw := as_wk_b lw p ten q.2.1
  have hl := as_over_le lw h1 p ten
  have h7 := pl_arr_6 (q.2.1 0 p) (as_wk lw p ten q.2.1) q.1 (pl_leave p (as_wk lw p ten q.2.1) q.1 q.2.1)
  refine ⟨LOK_arr (LOK_leave h1 (by omega)) (by omega), ⟨?_, ?_⟩, ⟨?_, ?_⟩, ⟨?_, ?_⟩, im_up_b h5 (by omega), im_up_b h6 (by omega)⟩
  · exact (pl_arr_v _ _ _ _ (by decide) (by decide)).trans h2.1
  · exact (pl_arr_v _ _ _ _ (by decide) (by decide)).trans h2.2
  · show 0 ≤ (pl_arr _ _ _ _).1 6; omega
  · show (pl_arr _ _ _ _).1 6 ≤ 98 * ((m + 1 : Nat) : Int); omega
  · exact ((pl_arr_row _ _ _ _ (by decide)).trans (pl_leave_row _ _ _ _ (by decide) (by decide))).trans h4.1
  · exact ((pl_arr_row _ _ _ _ (by decide)).trans (pl_leave_row _ _ _ _ (by decide) (by decide))).trans h4.2
theorem AOI_m {lw : Option im_T} {ten n : Int} {v0 : Nat → Int} {R0 : Nat → Int → Int} {q : ao_Q} (h : AOI n v0 R0 0 q) : ∀ m, AOI n v0 R0 m (ao lw ten n m q)
  | 0 => h
  | m + 1 => AOI_1 (AOI_m h m) _
/-- two lands alike where it matters at once -/
def AQ (q q' : ao_Q) (n : Int) : Prop := (q.1 0 = q'.1 0 ∧ q.1 2 = q'.1 2 ∧ q.1 6 = q'.1 6) ∧ (∀ p, 0 ≤ p → p < 10 → RQ p q.2.1 q'.2.1) ∧ ∀ p, n ≤ p → p < q.1 0 → q.2.2.1 p = q'.2.2.1 p ∧ q.2.2.2 p = q'.2.2.2 p
theorem pl_leave_q {p n : Int} {v v' : Nat → Int} {R R' : Nat → Int → Int} (hv : v 0 = v' 0) (h : ∀ p, 0 ≤ p → p < 10 → RQ p R R') : ∀ i, 0 ≤ i → i < 10 → RQ i (pl_leave p n v R) (pl_leave p n v' R') := by
  intro i h1 h2
  obtain ⟨a0, a1, a2, a3, a4, a5, a6⟩ := h i h1 h2
  unfold pl_leave
  rw [← hv]
  split
  · rename_i hp
    obtain ⟨b0, b1, b2, b3, -⟩ := h p hp.1 hp.2.2
    refine ⟨a0, a1, ?_, ?_, a4, a5, a6⟩
    · show im_up (R 2) p (R 2 p - n) i = im_up (R' 2) p (R' 2 p - n) i
      unfold im_up
      rw [a2, b2]
    · show im_up (R 3) p (min 99999 (R 3 p + n)) i = im_up (R' 3) p (min 99999 (R' 3 p + n)) i
      unfold im_up
      rw [a3, b3]
  · exact ⟨a0, a1, a2, a3, a4, a5, a6⟩
theorem pl_arr_q {p n : Int} {v v' : Nat → Int} {R R' : Nat → Int → Int} (hv : v 0 = v' 0 ∧ v 2 = v' 2 ∧ v 6 = v' 6) (h : ∀ p, 0 ≤ p → p < 10 → RQ p R R') : ((pl_arr p n v R).1 0 = (pl_arr p n v' R').1 0 ∧ (pl_arr p n v R).1 2 = (pl_arr p n v' R').1 2 ∧ (pl_arr p n v R).1 6 = (pl_arr p n v' R').1 6) ∧ ∀ i, 0 ≤ i → i < 10 → RQ i (pl_arr p n v R).2 (pl_arr p n v' R').2 := by
  obtain ⟨v0, v2, v6⟩ := hv
  unfold pl_arr
  rw [← v0]
  split
  · rename_i hp
    refine ⟨⟨v0, v2, v6⟩, fun i h1 h2 => ?_⟩
    obtain ⟨a0, a1, a2, a3, a4, a5, a6⟩ := h i h1 h2
    obtain ⟨b0, b1, b2, b3, -⟩ := h p hp.1 hp.2.2
    refine ⟨a0, a1, ?_, a3, a4, a5, a6⟩
    show im_up (R 2) p (min 999 (R 2 p + n)) i = im_up (R' 2) p (min 999 (R' 2 p + n)) i
    unfold im_up
    rw [a2, b2]
  · refine ⟨⟨v0, ?_, ?_⟩, h⟩
    · show min 99999 (v 2 + n) = min 99999 (v' 2 + n); rw [v2]
    · show v 6 + n = v' 6 + n; rw [v6]
theorem AQ_1 {lw : Option im_T} {ten p : Int} {q q' : ao_Q} (hp : 0 ≤ p ∧ p < 10) (h : AQ q q' (p + 1)) : AQ (ao_1 lw ten p q) (ao_1 lw ten p q') p := by
  obtain ⟨h1, h2, h3⟩ := h
  have hq := h2 p hp.1 hp.2
  have ew : as_wk lw p ten q.2.1 = as_wk lw p ten q'.2.1 := as_wk_q hq
  have eo : as_over lw p ten q.2.1 = as_over lw p ten q'.2.1 := as_over_q hq
  have e0 := hq.1
  have hl := pl_leave_q (p := p) (n := as_wk lw p ten q.2.1) h1.1 h2
  have ha := pl_arr_q (p := q.2.1 0 p) (n := as_wk lw p ten q.2.1) h1 hl
  unfold ao_1
  rw [← ew, ← eo, ← e0]
  refine ⟨ha.1, ha.2, fun i q1 q2 => ?_⟩
  show im_up q.2.2.1 p _ i = im_up q'.2.2.1 p _ i ∧ im_up q.2.2.2 p _ i = im_up q'.2.2.2 p _ i
  have q2' : i < q.1 0 := by
    have e : (pl_arr (q.2.1 0 p) (as_wk lw p ten q.2.1) q.1 (pl_leave p (as_wk lw p ten q.2.1) q.1 q.2.1)).1 0 = q.1 0 := pl_arr_v _ _ _ _ (by decide) (by decide)
    rw [← e]; exact q2
  unfold im_up
  by_cases e : i = p
  · rw [if_pos e, if_pos e, if_pos e, if_pos e]; exact ⟨rfl, rfl⟩
  · rw [if_neg e, if_neg e, if_neg e, if_neg e]
    exact h3 i (by omega) q2'
theorem AQ_m {lw : Option im_T} {ten n : Int} {q q' : ao_Q} (hn : n ≤ 10) (h : AQ q q' n) : ∀ m : Nat, (m : Int) ≤ n → AQ (ao lw ten n m q) (ao lw ten n m q') (n - m)
  | 0, _ => by
    show AQ q q' (n - ((0 : Nat) : Int))
    rw [show n - ((0 : Nat) : Int) = n by omega]
    exact h
  | m + 1, hm => by
    have ih := AQ_m (lw := lw) (ten := ten) hn h m (by omega)
    rw [show n - (m : Int) = n - 1 - m + 1 by omega] at ih
    have := AQ_1 (lw := lw) (ten := ten) (p := n - 1 - m) (by omega) ih
    rw [show n - ((m + 1 : Nat) : Int) = n - 1 - m by omega]
    exact this
/-- at once, of a land alone -/
def on_all (lw : Option im_T) (ten c by_ : Int) (v : Nat → Int) (R : Nat → Int → Int) : ao_Q := ao lw ten (v 0) (v 0).toNat (pl_U v 6 0, ao_ch c by_ v R, fun _ => 0, fun _ => 0)
theorem ao_ch_q {c b : Int} {v v' : Nat → Int} {R R' : Nat → Int → Int} (hv : v 0 = v' 0) (h : ∀ p, 0 ≤ p → p < 10 → RQ p R R') : ∀ p, 0 ≤ p → p < 10 → RQ p (ao_ch c b v R) (ao_ch c b v' R') := by
  intro i h1 h2
  obtain ⟨a0, a1, a2, a3, a4, a5, a6⟩ := h i h1 h2
  unfold ao_ch
  rw [← hv]
  split
  · rename_i hp
    obtain ⟨b0, b1, b2, b3, -⟩ := h c hp.1 hp.2.2
    refine ⟨a0, a1, ?_, a3, a4, a5, a6⟩
    show im_up (R 2) c (R 2 c + b) i = im_up (R' 2) c (R' 2 c + b) i
    unfold im_up
    rw [a2, b2]
  · exact ⟨a0, a1, a2, a3, a4, a5, a6⟩
theorem pl_R_q (R R2 : Nat → Int → Int) : ∀ p, 0 ≤ p → p < 10 → RQ p (pl_R R R2) R2 := by
  intro p h1 h2
  have e : ∀ f g : Int → Int, im_cpy f g 0 0 10 p = f p := by intro f g; rw [im_cpy_at, if_pos ⟨h1, h2⟩]
  have e4 : ∀ (f g : Int → Int) (i : Int), 0 ≤ i → i < 4 → im_cpy f g 0 0 4 i = f i := by intro f g i q1 q2; rw [im_cpy_at, if_pos ⟨q1, q2⟩]
  exact ⟨e _ _, e _ _, e _ _, e _ _, e4 _ _ _ (by decide) (by decide), e4 _ _ _ (by decide) (by decide), e4 _ _ _ (by decide) (by decide)⟩
theorem LOK_ch {c b : Int} {v : Nat → Int} {R : Nat → Int → Int} (h : LOK v R) (hc : 0 ≤ c → c < v 0 → 0 ≤ R 2 c + b ∧ R 2 c + b ≤ 999) : LOK v (ao_ch c b v R) := by
  unfold ao_ch
  split
  · rename_i hp
    exact LOK_cnt h (im_up_b (f := R 2) (lk_cnt h) (hc hp.1 hp.2.1))
  · exact h
theorem LOK_v6 {v : Nat → Int} {R : Nat → Int → Int} (h : LOK v R) (x : Int) : LOK (pl_U v 6 x) R := h
theorem LWR_take {v v2 : Nat → Int} {g g2 : Int → Option Nat} {T : List im_T} {lw : Option im_T} {R2 : Nat → Int → Int} (hk : LOK v2 R2) (h : LWR v2 g2 T lw) : LWR (pl_v v v2) (pl_g g g2 6) T lw := by
  rcases h with ⟨h1, h2⟩ | ⟨h1, t, q, h2, h3⟩
  · exact Or.inl ⟨h1, h2⟩
  · refine Or.inr ⟨h1, t, q, ?_, h3⟩
    have hf := lk_for hk
    have hw := lk_law hk
    show pl_g g g2 6 (v2 5) = some t
    rw [pl_g_at, if_pos (by omega)]
    exact h2
