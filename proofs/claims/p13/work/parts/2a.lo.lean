/-! the law in force asked of a parish: what is told -/
def TXOK (q : im_T) : Prop := q.2.1.1 ≤ 500 ∧ q.2.2.1 ≤ 100 ∧ COK q.2.1.2 ∧ (∀ i, -1 ≤ q.2.2.2 i ∧ q.2.2.2 i ≤ 1000) ∧ (0 ≤ q.1.2.1 ∧ 5 * q.1.2.1 ≤ q.2.2.1) ∧ (0 ≤ q.1.1 ∧ q.1.1 ≤ 500) ∧ (0 ≤ q.1.2.2 ∧ q.1.2.2 ≤ 1023)
/-- the last clause of a kind that holds -/
def tx_lat (e : Int → Int × Int) (p : Int → Int → Int) (kind x : Int) : Nat → Int
  | 0 => x
  | m + 1 => if p m 0 = kind then (if (e (p m 4)).2 = 0 ∧ ¬ (e (p m 4)).1 = 0 ∧ (e (p m 2)).2 = 0 then (e (p m 2)).1 else tx_lat e p kind x m) else tx_lat e p kind x m
def as_lat (lw : Option im_T) (wd : Int → Int) (kind x : Int) : Int := match lw with
  | none => x
  | some q => tx_lat (mc_ev q.2.1.2 q.2.1.1 8 wd) (tx_part q.2.2.1 q.2.2.2) kind x q.1.2.1.toNat
def bd (x a b : Int) : Int := if x < a then a else if b < x then b else x
theorem bd_b {x a b : Int} (h : a ≤ b) : a ≤ bd x a b ∧ bd x a b ≤ b := by unfold bd; split; omega; split <;> omega
def as_wd (p ov : Int) (R : Nat → Int → Int) : Int → Int := fun i => if i = 0 then p else if i = 1 then R 2 p else if i = 2 then ov else if i = 3 then R 0 p else if i = 4 then R 1 p else if i = 5 then R 3 p else if i = 6 then R 7 0 else if i = 7 then R 7 3 else 0
def as_tens (lw : Option im_T) (p ten : Int) (R : Nat → Int → Int) : Int := bd (if 0 < ten then ten else as_lat lw (as_wd p (-1) R) 0 (R 7 1)) 2 99
def as_over (lw : Option im_T) (p ten : Int) (R : Nat → Int → Int) : Int := R 2 p % as_tens lw p ten R
def as_stay (lw : Option im_T) (p ten : Int) (R : Nat → Int → Int) : Int := min (as_over lw p ten R) (bd (as_lat lw (as_wd p (as_over lw p ten R) R) 1 0) 0 98)
def as_steps (lw : Option im_T) (p ten : Int) (R : Nat → Int → Int) : Int := bd (as_lat lw (as_wd p (as_over lw p ten R) R) 2 1) 1 9
def as_bar (lw : Option im_T) (p ten : Int) (R : Nat → Int → Int) : Int := if as_lat lw (as_wd p (as_over lw p ten R) R) 3 0 = 0 then 0 else 1
def as_v (lw : Option im_T) (p ten : Int) (R : Nat → Int → Int) : Nat → Int := fun i => match i with
  | 0 => as_tens lw p ten R
  | 1 => as_over lw p ten R
  | 2 => as_stay lw p ten R
  | 3 => as_steps lw p ten R
  | _ => as_bar lw p ten R
theorem as_tens_b (lw : Option im_T) (p ten : Int) (R : Nat → Int → Int) : 2 ≤ as_tens lw p ten R ∧ as_tens lw p ten R ≤ 99 := bd_b (by decide)
theorem as_over_b (lw : Option im_T) (p ten : Int) (R : Nat → Int → Int) : 0 ≤ as_over lw p ten R ∧ as_over lw p ten R ≤ 98 := by
  have h := as_tens_b lw p ten R
  unfold as_over
  have h1 := Int.emod_nonneg (R 2 p) (show as_tens lw p ten R ≠ 0 by omega)
  have h2 := Int.emod_lt_of_pos (R 2 p) (show 0 < as_tens lw p ten R by omega)
  omega
theorem as_stay_b (lw : Option im_T) (p ten : Int) (R : Nat → Int → Int) : 0 ≤ as_stay lw p ten R ∧ as_stay lw p ten R ≤ as_over lw p ten R := by
  have h := as_over_b lw p ten R
  have h2 := bd_b (x := as_lat lw (as_wd p (as_over lw p ten R) R) 1 0) (a := 0) (b := 98) (by decide)
  unfold as_stay
  omega
theorem as_steps_b (lw : Option im_T) (p ten : Int) (R : Nat → Int → Int) : 1 ≤ as_steps lw p ten R ∧ as_steps lw p ten R ≤ 9 := bd_b (by decide)
theorem as_bar_b (lw : Option im_T) (p ten : Int) (R : Nat → Int → Int) : as_bar lw p ten R = 0 ∨ as_bar lw p ten R = 1 := by
  unfold as_bar
  split
  · exact Or.inl rfl
  · exact Or.inr rfl
theorem mc_lit_congr {w x : Int} {wl : Int} {wd wd' : Int → Int} (h : ∀ i, 0 ≤ i → i < wl → wd i = wd' i) : mc_lit w x wl wd = mc_lit w x wl wd' := by
  unfold mc_lit
  split
  · rfl
  · split
    · rename_i q
      exact h x q.1 q.2
    · rfl
theorem mc_run_congr {c wd wd' : Int → Int} {cl wl : Int} (h : ∀ i, 0 ≤ i → i < wl → wd i = wd' i) : ∀ (n : Nat) (a top : Int) (s : Int → Int), mc_run c cl wl wd n a top s = mc_run c cl wl wd' n a top s := by
  intro n
  induction n with
  | zero => intro a top s; rfl
  | succ n ih =>
    intro a top s
    rw [mc_run_s, mc_run_s, mc_lit_congr h]
    simp only [ih]
theorem mc_ev_congr {c wd wd' : Int → Int} {cl wl : Nat} {st : Int} (h : ∀ i : Int, 0 ≤ i → i < (wl : Int) → wd i = wd' i) : mc_ev c cl wl wd st = mc_ev c cl wl wd' st := by
  unfold mc_ev mc_ret mc_all
  rw [mc_run_congr h]
theorem WOK_up {s : Int → Int} (h : WOK s) {i x : Int} (hx : -1000000000 ≤ x ∧ x ≤ 1000000000) : WOK (im_up s i x) := by
  intro j
  unfold im_up
  split
  · exact hx
  · exact h j
theorem tx_lat_b {c wd : Int → Int} {cl wl : Nat} {p : Int → Int → Int} {kind x : Int} (hx : -1000001000 ≤ x ∧ x ≤ 1000001000) (he : ∀ m f, -1000001000 ≤ (mc_ev c cl wl wd (p m f)).1 ∧ (mc_ev c cl wl wd (p m f)).1 ≤ 1000001000) : ∀ n, -1000001000 ≤ tx_lat (mc_ev c cl wl wd) p kind x n ∧ tx_lat (mc_ev c cl wl wd) p kind x n ≤ 1000001000 := by
  intro n
  induction n with
  | zero => exact hx
  | succ n ih =>
    unfold tx_lat
    split
    · split
      · exact he _ _
      · exact ih
    · exact ih
theorem tx_part_b {kl : Int} {k : Int → Int} (hk : ∀ i, -1 ≤ k i ∧ k i ≤ 1000) (a f : Int) : -1 ≤ tx_part kl k a f ∧ tx_part kl k a f ≤ 1000 := by
  unfold tx_part
  split
  · exact hk _
  · exact ⟨by decide, by decide⟩
theorem mc_run_sok {c wd : Int → Int} {cl wl : Int} (hc : COK c) (hwd : WOK wd) : ∀ (n : Nat) (a top : Int) (s : Int → Int), 0 ≤ a → (cl ≤ 500) → SOK s → (∀ i, 0 ≤ i → i < top → -(1000000000 + a) ≤ s i ∧ s i ≤ 1000000000 + a) → SOK (mc_run c cl wl wd n a top s).2.1 := by
  intro n
  induction n with
  | zero => intro a top s _ _ h _; exact h
  | succ n ih =>
    intro a top s ha hcl h hl
    have e0 := hc a
    have e7 := hwd (c a / 16)
    rw [mc_run_s]
    split
    · exact h
    rename_i h1
    split
    · exact h
    split
    · split
      · exact h
      · have hx : -134217728 - 1000000000 ≤ mc_lit (c a % 16) (c a / 16) wl wd ∧ mc_lit (c a % 16) (c a / 16) wl wd ≤ 1000000000 ∧ -1000000000 ≤ mc_lit (c a % 16) (c a / 16) wl wd := by
          unfold mc_lit
          split
          · omega
          · split <;> omega
        refine ih _ _ _ (by omega) hcl (SOK_up h (by omega)) (fun i q1 q2 => ?_)
        unfold im_up
        split
        · omega
        · have := hl i q1 (by omega); omega
    rename_i h3
    split
    · exact h
    rename_i h4
    have e5 := hl (top - 1) (by omega) (by omega)
    split
    · refine ih _ _ _ (by omega) hcl (SOK_up h (by omega)) (fun i q1 q2 => ?_)
      unfold im_up
      split
      · omega
      · have := hl i q1 (by omega); omega
    split
    · have e8 := mc_cb_b (c a % 16) (s (top - 2)) (s (top - 1))
      split
      · refine ih _ _ _ (by omega) hcl (SOK_up h (by omega)) (fun i q1 q2 => ?_)
        unfold im_up
        split
        · omega
        · have := hl i q1 (by omega); omega
      · exact SOK_up h (by omega)
    split
    · exact ih _ _ _ (by omega) hcl h (fun i q1 q2 => by have := hl i q1 q2; omega)
    · exact ih _ _ _ (by omega) hcl h (fun i q1 q2 => by have := hl i q1 (by omega); omega)
theorem mc_ev_b {c wd : Int → Int} {cl wl : Nat} (hc : COK c) (hwd : WOK wd) (hcl : cl ≤ 500) (st : Int) : -1000001000 ≤ (mc_ev c cl wl wd st).1 ∧ (mc_ev c cl wl wd st).1 ≤ 1000001000 := by
  unfold mc_ev mc_ret mc_val
  dsimp only
  split
  · exact ⟨by decide, by decide⟩
  · split
    · exact ⟨by decide, by decide⟩
    · exact mc_run_sok hc hwd _ _ _ _ (by omega) (by omega) (fun i => ⟨by decide, by decide⟩) (fun i q1 q2 => by omega) 0
theorem as_lat_b {q : im_T} (hq : TXOK q) (wd : Int → Int) (hwd : WOK wd) {kind x : Int} (hx : -1000001000 ≤ x ∧ x ≤ 1000001000) : -1000001000 ≤ as_lat (some q) wd kind x ∧ as_lat (some q) wd kind x ≤ 1000001000 := tx_lat_b hx (fun m f => mc_ev_b hq.2.2.1 hwd hq.1 _) _
theorem as_wd_ok {v : Nat → Int} {R : Nat → Int → Int} (h : LOK v R) (hday : R 7 0 ≤ 100000) {p ov : Int} (hp : 0 ≤ p ∧ p < 10) (ho : -1 ≤ ov ∧ ov ≤ 98) : WOK (as_wd p ov R) := by
  have h1 := lk_cnt h p
  have h2 := lk_bel h p
  have h3 := lk_dep h p
  have h4 := lk_wlk h p
  have h5 := lk_trm h
  intro i
  unfold as_wd
  split
  · omega
  split
  · omega
  split
  · omega
  split
  · omega
  split
  · omega
  split
  · omega
  split
  · omega
  split
  · omega
  · exact ⟨by decide, by decide⟩
section Lo
variable {ro : ab_R} {T : List im_T} {d : Nat}
set_option maxHeartbeats 8000000 in
theorem c_latNo (hd : 1 ≤ d) (hT : T.length < 1000) {v : Nat → Int} {b : Int} {s wd : Int → Int} {kind x : Int} : im_ct ro T d 3 [mr 0, mn, .inl kind, .inl x] (CC 0 v b s wd) (fun r w => r = some (.inl x) ∧ w = CC 0 v b s wd) := by
  obtain ⟨d, rfl⟩ : ∃ e, d = e + 1 := ⟨d - 1, by omega⟩
  refine im_ct_of (own := 0) (ret := (some .int)) (code := ab_k_X0_latestOf) (nL := 7) (L0 := [some (mr 0), some (mn), some (.inl kind), some (.inl x), none, none, none]) (n := 4) rfl rfl rfl rfl rfl rfl rfl rfl rfl ?_
  refine im_g 1 (y := (1, _, _, _)) rfl trivial ?_
  refine im_bF rfl rfl trivial id ?_
  refine im_g 1 (y := (5, _, _, _)) rfl trivial ?_
  refine im_r rfl rfl trivial rfl ?_
  exact ⟨rfl, rfl⟩
theorem c_latIs (hd : 3 ≤ d) (hT : T.length < 1000) {v : Nat → Int} {q : im_T} (hq : TXOK q) {wd : Int → Int} (hwd : WOK wd) {kind x : Int} (hk : im_ir kind) (hx : im_ir x) {b : Int} (hb : b = 0 ∨ b = 1) {s : Int → Int} (hs : SOK s) : im_ct ro T d 3 [mr 0, mr 4, .inl kind, .inl x] (CC 0 v b s wd ++ XC 4 q.1 q.2.1.1 q.2.1.2 q.2.2.1 q.2.2.2) (fun r w => ∃ b1 s1, (b1 = 0 ∨ b1 = 1) ∧ SOK s1 ∧ r = some (.inl (tx_lat (mc_ev q.2.1.2 q.2.1.1 8 wd) (tx_part q.2.2.1 q.2.2.2) kind x q.1.2.1.toNat)) ∧ w = CC 0 v b1 s1 wd ++ XC 4 q.1 q.2.1.1 q.2.1.2 q.2.2.1 q.2.2.2) := by
  obtain ⟨d, rfl⟩ : ∃ e, d = e + 1 := ⟨d - 1, by omega⟩
  obtain ⟨hcl, hkl, hc, hkk, hsz, hu, -⟩ := hq
  have hp := tx_part_b (kl := q.2.2.1) hkk
  have key : ∀ (m : Nat) (b : Int) (s : Int → Int) (x5 x6 : Option im_V), (b = 0 ∨ b = 1) → SOK s → (m : Int) ≤ q.1.2.1 → im_wp ro (ab_Ev ro ab_codes d) 0 (some .int) ab_k_X0_latestOf 7 T (fun r w => ∃ b1 s1, (b1 = 0 ∨ b1 = 1) ∧ SOK s1 ∧ r = some (.inl (tx_lat (mc_ev q.2.1.2 q.2.1.1 8 wd) (tx_part q.2.2.1 q.2.2.2) kind x m)) ∧ w = CC 0 v b1 s1 wd ++ XC 4 q.1 q.2.1.1 q.2.1.2 q.2.2.1 q.2.2.2) (14, [some (mr 0), some (mr 4), some (.inl kind), some (.inl x), some (.inl ((m : Int) - 1)), x5, x6], [], CC 0 v b s wd ++ XC 4 q.1 q.2.1.1 q.2.1.2 q.2.2.1 q.2.2.2) := by
    intro m
    induction m with
    | zero =>
      intro b s x5 x6 h1 h2 h3
      refine im_g 1 (y := (16, _, _, _)) rfl trivial ?_
      refine im_bT rfl rfl ⟨(by omega), trivial⟩ (by omega) ?_
      refine im_g 1 (y := (107, _, _, _)) rfl trivial ?_
      refine im_r rfl rfl trivial rfl ?_
      exact ⟨b, s, h1, h2, rfl, rfl⟩
    | succ m ih =>
      intro b s x5 x6 h1 h2 h3
      rw [show ((m + 1 : Nat) : Int) - 1 = (m : Int) by omega]
      have p0 := hp m 0
      have p4 := hp m 4
      have p2 := hp m 2
      refine im_g 1 (y := (16, _, _, _)) rfl trivial ?_
      refine im_bF rfl rfl ⟨(by omega), trivial⟩ (by omega) ?_
      refine im_g 3 (y := (23, _, _, _)) rfl trivial ?_
      refine im_call [4,5,6] rfl rfl (c_part (u := q.1) (cl := q.2.1.1) (kl := q.2.2.1) (c := q.2.1.2) (k := q.2.2.2) (a := m) (f := 0) (by omega) hT (by omega) (by omega) (by omega)) rfl rfl rfl (by decide) rfl (by decide) hT (fun v1 w1 hq => ?_)
      obtain ⟨rfl, rfl⟩ := hq
      refine ⟨_, _, CC 0 v b s wd ++ XC 4 q.1 q.2.1.1 q.2.1.2 q.2.2.1 q.2.2.2, rfl, rfl, rfl, ?_⟩
      refine im_g 1 (y := (27, _, _, _)) rfl trivial ?_
      refine im_b rfl rfl ⟨(by omega), (by omega), trivial⟩ (fun j1 => ?_) (fun j1 => ?_)
      · refine im_g 2 (y := (14, _, _, _)) rfl trivial ?_
        rw [show tx_lat (mc_ev q.2.1.2 q.2.1.1 8 wd) (tx_part q.2.2.1 q.2.2.2) kind x (m + 1) = tx_lat (mc_ev q.2.1.2 q.2.1.1 8 wd) (tx_part q.2.2.1 q.2.2.2) kind x m from if_neg (by omega)]
        exact ih b s _ _ h1 h2 (by omega)
      · refine im_g 6 (y := (39, _, _, _)) rfl trivial ?_
        refine im_call [4,5,6] rfl rfl (c_part (u := q.1) (cl := q.2.1.1) (kl := q.2.2.1) (c := q.2.1.2) (k := q.2.2.2) (a := m) (f := 4) (by omega) hT (by omega) (by omega) (by omega)) rfl rfl rfl (by decide) rfl (by decide) hT (fun v1 w1 hq => ?_)
        obtain ⟨rfl, rfl⟩ := hq
        refine ⟨_, _, CC 0 v b s wd ++ XC 4 q.1 q.2.1.1 q.2.1.2 q.2.2.1 q.2.2.2, rfl, rfl, rfl, ?_⟩
        refine im_g 2 (y := (46, _, _, _)) rfl trivial ?_
        refine im_call [1,2,4,5,6,3] rfl rfl (c_val (u := q.1) (cl := q.2.1.1) (kl := q.2.2.1) (wl := 8) (c := q.2.1.2) (k := q.2.2.2) (wd := wd) (st := tx_part q.2.2.1 q.2.2.2 m 4) (by omega) hT (by omega) (by omega) (by omega) hc hwd (b := b) h1 (s := s) h2) rfl rfl rfl (by decide) rfl (by decide) hT (fun v1 w1 hq => ?_)
        obtain ⟨s4, hs4, rfl, rfl, hv4⟩ := hq
        refine ⟨_, _, CC 0 v (mc_ev q.2.1.2 q.2.1.1 8 wd (tx_part q.2.2.1 q.2.2.2 m 4)).2 s4 wd ++ XC 4 q.1 q.2.1.1 q.2.1.2 q.2.2.1 q.2.2.2, rfl, rfl, rfl, ?_⟩
        have hb4 := mc_ev_bit q.2.1.2 q.2.1.1 8 wd (tx_part q.2.2.1 q.2.2.2 m 4)
        refine im_g 4 (y := (58, _, _, _)) rfl trivial ?_
        refine im_b rfl rfl ⟨(by omega), trivial⟩ (fun j2 => ?_) (fun j2 => ?_)
        · refine im_g 2 (y := (14, _, _, _)) rfl trivial ?_
          rw [show tx_lat (mc_ev q.2.1.2 q.2.1.1 8 wd) (tx_part q.2.2.1 q.2.2.2) kind x (m + 1) = tx_lat (mc_ev q.2.1.2 q.2.1.1 8 wd) (tx_part q.2.2.1 q.2.2.2) kind x m from (if_pos (by omega)).trans (if_neg (by intro z; omega))]
          exact ih (mc_ev q.2.1.2 q.2.1.1 8 wd (tx_part q.2.2.1 q.2.2.2 m 4)).2 s4 _ _ (mc_ev_bit _ _ _ _ _) hs4 (by omega)
        · refine im_g 1 (y := (63, _, _, _)) rfl trivial ?_
          refine im_b rfl rfl ⟨(by omega), trivial⟩ (fun j3 => ?_) (fun j3 => ?_)
          · refine im_g 2 (y := (14, _, _, _)) rfl trivial ?_
            rw [show tx_lat (mc_ev q.2.1.2 q.2.1.1 8 wd) (tx_part q.2.2.1 q.2.2.2) kind x (m + 1) = tx_lat (mc_ev q.2.1.2 q.2.1.1 8 wd) (tx_part q.2.2.1 q.2.2.2) kind x m from (if_pos (by omega)).trans (if_neg (by intro z; omega))]
            exact ih (mc_ev q.2.1.2 q.2.1.1 8 wd (tx_part q.2.2.1 q.2.2.2 m 4)).2 s4 _ _ (mc_ev_bit _ _ _ _ _) hs4 (by omega)
          · refine im_g 6 (y := (75, _, _, _)) rfl trivial ?_
            refine im_call [4,5,6] rfl rfl (c_part (u := q.1) (cl := q.2.1.1) (kl := q.2.2.1) (c := q.2.1.2) (k := q.2.2.2) (a := m) (f := 2) (by omega) hT (by omega) (by omega) (by omega)) rfl rfl rfl (by decide) rfl (by decide) hT (fun v1 w1 hq => ?_)
            obtain ⟨rfl, rfl⟩ := hq
            refine ⟨_, _, CC 0 v (mc_ev q.2.1.2 q.2.1.1 8 wd (tx_part q.2.2.1 q.2.2.2 m 4)).2 s4 wd ++ XC 4 q.1 q.2.1.1 q.2.1.2 q.2.2.1 q.2.2.2, rfl, rfl, rfl, ?_⟩
            refine im_g 2 (y := (82, _, _, _)) rfl trivial ?_
            refine im_call [1,2,4,5,6,3] rfl rfl (c_val (u := q.1) (cl := q.2.1.1) (kl := q.2.2.1) (wl := 8) (c := q.2.1.2) (k := q.2.2.2) (wd := wd) (st := tx_part q.2.2.1 q.2.2.2 m 2) (by omega) hT (by omega) (by omega) (by omega) hc hwd (b := (mc_ev q.2.1.2 q.2.1.1 8 wd (tx_part q.2.2.1 q.2.2.2 m 4)).2) (mc_ev_bit _ _ _ _ _) (s := s4) hs4) rfl rfl rfl (by decide) rfl (by decide) hT (fun v1 w1 hq => ?_)
            obtain ⟨s2, hs2, rfl, rfl, hv2⟩ := hq
            refine ⟨_, _, CC 0 v (mc_ev q.2.1.2 q.2.1.1 8 wd (tx_part q.2.2.1 q.2.2.2 m 2)).2 s2 wd ++ XC 4 q.1 q.2.1.1 q.2.1.2 q.2.2.1 q.2.2.2, rfl, rfl, rfl, ?_⟩
            have hb2 := mc_ev_bit q.2.1.2 q.2.1.1 8 wd (tx_part q.2.2.1 q.2.2.2 m 2)
            refine im_g 4 (y := (94, _, _, _)) rfl trivial ?_
            refine im_b rfl rfl ⟨(by omega), trivial⟩ (fun j4 => ?_) (fun j4 => ?_)
            · refine im_g 2 (y := (14, _, _, _)) rfl trivial ?_
              rw [show tx_lat (mc_ev q.2.1.2 q.2.1.1 8 wd) (tx_part q.2.2.1 q.2.2.2) kind x (m + 1) = tx_lat (mc_ev q.2.1.2 q.2.1.1 8 wd) (tx_part q.2.2.1 q.2.2.2) kind x m from (if_pos (by omega)).trans (if_neg (by intro z; omega))]
              exact ih (mc_ev q.2.1.2 q.2.1.1 8 wd (tx_part q.2.2.1 q.2.2.2 m 2)).2 s2 _ _ (mc_ev_bit _ _ _ _ _) hs2 (by omega)
            · refine im_g 1 (y := (99, _, _, _)) rfl trivial ?_
              refine im_r rfl rfl trivial rfl ?_
              rw [show tx_lat (mc_ev q.2.1.2 q.2.1.1 8 wd) (tx_part q.2.2.1 q.2.2.2) kind x (m + 1) = (mc_ev q.2.1.2 q.2.1.1 8 wd (tx_part q.2.2.1 q.2.2.2 m 2)).1 from (if_pos (by omega)).trans (if_pos ⟨by omega, by omega, by omega⟩)]
              exact ⟨_, _, mc_ev_bit _ _ _ _ _, hs2, rfl, rfl⟩
  refine im_ct_of (own := 0) (ret := (some .int)) (code := ab_k_X0_latestOf) (nL := 7) (L0 := [some (mr 0), some (mr 4), some (.inl kind), some (.inl x), none, none, none]) (n := 7) rfl rfl rfl rfl rfl rfl rfl rfl rfl ?_
  refine im_g 1 (y := (1, _, _, _)) rfl trivial ?_
  refine im_bT rfl rfl trivial trivial ?_
  refine im_g 5 (y := (14, _, _, _)) rfl trivial ?_
  refine im_eqs (y := (14, [some (mr 0), some (mr 4), some (.inl kind), some (.inl x), some (.inl (((q.1.2.1.toNat : Nat) : Int) - 1)), none, none], [], CC 0 v b s wd ++ XC 4 q.1 q.2.1.1 q.2.1.2 q.2.2.1 q.2.2.2)) ?_ (key q.1.2.1.toNat b s none none hb hs (by omega))
  rw [show ((q.1.2.1.toNat : Nat) : Int) = q.1.2.1 by omega]
  rfl
end Lo
