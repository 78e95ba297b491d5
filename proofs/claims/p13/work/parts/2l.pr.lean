/-! paper: days to come, years, who is moved -/
theorem mv_congr {a b a' b' : Int → Int} : ∀ k : Nat, (∀ i : Int, 0 ≤ i → i < k → a i = a' i ∧ b i = b' i) → mv_bits a b k = mv_bits a' b' k
  | 0, _ => rfl
  | k + 1, h => by
    have ih := mv_congr k (fun i h1 h2 => h i h1 (by omega))
    obtain ⟨e1, e2⟩ := h k (by omega) (by omega)
    unfold mv_bits
    rw [ih, e1, e2]
abbrev dd_S : Type := (Nat → Int) × (Nat → Int → Int) × Int × Int
def dd_act (lw : Option im_T) (what p : Int) (v : Nat → Int) (R : Nat → Int → Int) : (Nat → Int) × (Nat → Int → Int) := if what = 0 then (v, (pl_growBy p 1 v R).2) else if what = 1 then (v, (pl_growBy p (-1) v R).2) else (pl_send lw p v R).2
def dd_1 (lw : Option im_T) (z : dd_S) : dd_S := ((pl_day (dd_act lw (dr_next (dr_next z.2.2.1) % 3) (dr_next z.2.2.1 % z.1 0) z.1 z.2.1).1 (dd_act lw (dr_next (dr_next z.2.2.1) % 3) (dr_next z.2.2.1 % z.1 0) z.1 z.2.1).2).2.1, (pl_day (dd_act lw (dr_next (dr_next z.2.2.1) % 3) (dr_next z.2.2.1 % z.1 0) z.1 z.2.1).1 (dd_act lw (dr_next (dr_next z.2.2.1) % 3) (dr_next z.2.2.1 % z.1 0) z.1 z.2.1).2).2.2, dr_next (dr_next z.2.2.1), z.2.2.2 + (pl_day (dd_act lw (dr_next (dr_next z.2.2.1) % 3) (dr_next z.2.2.1 % z.1 0) z.1 z.2.1).1 (dd_act lw (dr_next (dr_next z.2.2.1) % 3) (dr_next z.2.2.1 % z.1 0) z.1 z.2.1).2).2.1 6)
def dd (lw : Option im_T) : Nat → dd_S → dd_S
  | 0, z => z
  | n + 1, z => if z.2.1 7 0 < 999 ∧ 0 < z.1 0 then dd lw n (dd_1 lw z) else z
def DDI (v0 : Nat → Int) (m : Int) (z : dd_S) : Prop := LOK z.1 z.2.1 ∧ z.2.1 7 0 ≤ 999 ∧ z.1 5 = v0 5 ∧ (0 ≤ z.2.2.1 ∧ z.2.2.1 ≤ 1000003) ∧ (0 ≤ z.2.2.2 ∧ z.2.2.2 ≤ 1568 * m)
theorem dr_next_b {s : Int} : 0 ≤ dr_next s ∧ dr_next s ≤ 1000003 := by unfold dr_next; omega
theorem pl_growBy_7 (p b : Int) (v : Nat → Int) (R : Nat → Int → Int) {j : Nat} (hj : j ≠ 2) : (pl_growBy p b v R).2 j = R j := by
  unfold pl_growBy pl_U
  split
  · rfl
  split
  · rfl
  split
  · rfl
  · simp only [hj, if_false]
theorem pl_send_75 (lw : Option im_T) (p : Int) (v : Nat → Int) (R : Nat → Int → Int) : (pl_send lw p v R).2.2 7 = R 7 ∧ (pl_send lw p v R).2.1 5 = v 5 ∧ (pl_send lw p v R).2.1 0 = v 0 := by
  unfold pl_send
  split
  · exact ⟨rfl, rfl, rfl⟩
  split
  · exact ⟨rfl, rfl, rfl⟩
  split
  · exact ⟨rfl, rfl, rfl⟩
  split
  · exact ⟨rfl, rfl, rfl⟩
  · exact ⟨pl_leave_row _ _ _ _ (by decide) (by decide), rfl, rfl⟩
theorem dd_act_ok (lw : Option im_T) (what p : Int) {v : Nat → Int} {R : Nat → Int → Int} (h : LOK v R) : LOK (dd_act lw what p v R).1 (dd_act lw what p v R).2 ∧ (dd_act lw what p v R).2 7 = R 7 ∧ (dd_act lw what p v R).1 5 = v 5 := by
  unfold dd_act
  split
  · exact ⟨LOK_grow h p 1, pl_growBy_7 _ _ _ _ (by decide), rfl⟩
  split
  · exact ⟨LOK_grow h p (-1), pl_growBy_7 _ _ _ _ (by decide), rfl⟩
  · have := pl_send_75 lw p v R
    exact ⟨LOK_send lw h p, this.1, this.2.1⟩
theorem pl_day_5 {v : Nat → Int} {R : Nat → Int → Int} (h : LOK v R) : (pl_day v R).2.1 5 = v 5 := by
  have hg := lk_grp h
  exact (PDI_k h (v 1).toNat (by omega)).1.2.2.2.2
theorem DDI_1 {lw : Option im_T} {v0 : Nat → Int} {m : Int} {z : dd_S} (h : DDI v0 m z) (hd : z.2.1 7 0 < 999) : DDI v0 (m + 1) (dd_1 lw z) := by
  obtain ⟨h1, h2, h3, h4, h5⟩ := h
  obtain ⟨a1, a2, a3⟩ := dd_act_ok lw (dr_next (dr_next z.2.2.1) % 3) (dr_next z.2.2.1 % z.1 0) h1
  obtain ⟨b1, b2, b3, b4⟩ := LOK_day a1
  have b5 := pl_day_5 a1
  have hs := dr_next_b (s := dr_next z.2.2.1)
  unfold dd_1
  refine ⟨b1, ?_, b5.trans (a3.trans h3), hs, ?_, ?_⟩
  · dsimp only
    rw [b3, a2]
    omega
  · dsimp only
    omega
  · dsimp only
    omega
theorem PRB_2 {PR : Nat → Int → Int} (h : PRB PR) : PRB (pl_U PR 2 (im_cpy (PR 1) (PR 2) 0 0 10)) := by
  intro r i hr
  unfold pl_U
  split
  · rw [im_cpy_at]
    split
    · exact h 1 i (by decide)
    · exact h 2 i (by decide)
  · exact h r i hr
theorem PKO_2 {b : Int} {s wd : Int → Int} {sv : Nat → Int} {sR PR : Nat → Int → Int} (h : PKO b s wd sv sR PR) : PKO b s wd sv sR (pl_U PR 2 (im_cpy (PR 1) (PR 2) 0 0 10)) := by
  obtain ⟨h1, h2, h3, h4, h5, h6⟩ := h
  refine ⟨h1, h2, h3, h4, h5, fun r i => ?_⟩
  unfold pl_U
  split
  · rw [im_cpy_at]
    split
    · exact h6 1 i
    · exact h6 2 i
  · exact h6 r i
section Pr
variable {ro : ab_R} {T : List im_T} {d : Nat}
set_option maxHeartbeats 8000000 in
theorem c_moved (hd : 6 ≤ d) (hT : T.length < 1000) {v : Nat → Int} {R : Nat → Int → Int} {g : Int → Option Nat} (h : LOK v R) (hday : R 7 0 ≤ 100000) (hg : GV g T) {lw : Option im_T} (hl : LWR v g T lw) {pv cv : Nat → Int} {b : Int} {s wd : Int → Int} {sv : Nat → Int} {sR : Nat → Int → Int} {sg : Int → Option Nat} {PR : Nat → Int → Int} (hk : PKO b s wd sv sR PR) (hpb : PRB PR) {p : Int} (hp : 0 ≤ p ∧ p < v 0) (hc : R 2 p < 999) : im_ct ro T d 32 [mr 0, mr 24, .inl p] (PC 0 pv cv b s wd sv sR sg PR ++ LC 24 v R g) (fun r w => r = some (.inl (mv_bits (on_all lw 0 p 1 v R).2.2.2 (on_all lw 0 (-1) 0 v R).2.2.2 (v 0).toNat)) ∧ ∃ cv1 b1 s1 wd1 sv1 sR1 sg1 PR1, PKO b1 s1 wd1 sv1 sR1 PR1 ∧ PRB PR1 ∧ w = PC 0 pv cv1 b1 s1 wd1 sv1 sR1 sg1 PR1 ++ LC 24 v R g) := by
  obtain ⟨d, rfl⟩ : ∃ e, d = e + 1 := ⟨d - 1, by omega⟩
  have hp0 := lk_par h
  have hcp := lk_cnt h p
  refine im_ct_of (own := 3) (ret := (some .int)) (code := ab_k_X3_movedBits) (nL := 5) (L0 := [some (mr 0), some (mr 24), some (.inl p), none, none]) (n := 36) rfl rfl rfl rfl rfl rfl rfl rfl rfl ?_
  refine im_g 5 (y := (5, _, _, _)) rfl trivial ?_
  refine im_call [0,1,2,3,4,5,6,7,8,9,10,11,12,13,14,15,16,17,18,19,20,21,22,23,24,25,26,27,28,29,30,31,32,33,34,35] rfl rfl (c_once (by omega) hT h hday hg hl (pv := pv) hk hpb (c := -1) (y := 0) (ten := 0) (by decide) (by decide) (by decide) (fun z => absurd z (by decide))) rfl rfl rfl (by decide) rfl (by decide) hT (fun v1 w1 hq => ?_)
  obtain ⟨rfl, cv1, b1, s1, wd1, sv1, sR1, sg1, PR1, hk1, e1, o1, hpb1, rfl⟩ := hq
  refine ⟨_, _, PC 0 pv cv1 b1 s1 wd1 sv1 sR1 sg1 PR1 ++ LC 24 v R g, rfl, rfl, rfl, ?_⟩
  refine im_g 14 (y := (29, _, _, _)) rfl ⟨(by omega), (by omega), (by omega), (by omega), (by omega), trivial⟩ ?_
  refine im_call [0,1,2,3,4,5,6,7,8,9,10,11,12,13,14,15,16,17,18,19,20,21,22,23,24,25,26,27,28,29,30,31,32,33,34,35] rfl rfl (c_once (by omega) hT h hday hg hl (pv := pv) (PKO_2 hk1) (PRB_2 hpb1) (c := p) (y := 1) (ten := 0) (by omega) (by decide) (by decide) (fun z1 z2 => by omega)) rfl rfl rfl (by decide) rfl (by decide) hT (fun v1 w1 hq => ?_)
  obtain ⟨rfl, cv2, b2, s2, wd2, sv2, sR2, sg2, PR2, hk2, e2, o2, hpb2, rfl⟩ := hq
  refine ⟨_, _, PC 0 pv cv2 b2 s2 wd2 sv2 sR2 sg2 PR2 ++ LC 24 v R g, rfl, rfl, rfl, ?_⟩
  refine im_g 5 (y := (38, _, _, _)) rfl trivial ?_
  refine im_for (v 0).toNat (fun k => (38, [some (mr 0), some (mr 24), some (.inl p), some (.inl (mv_bits (PR2 1) (PR2 2) k)), some (.inl ((k : Int)))], [], PC 0 pv cv2 b2 s2 wd2 sv2 sR2 sg2 PR2 ++ LC 24 v R g)) (fun k hk ih => ?_) ?_
  · have z1 := hpb2 1 (k : Int) (by decide)
    have z2 := hpb2 2 (k : Int) (by decide)
    refine im_g 3 (y := (44, _, _, _)) rfl trivial ?_
    refine im_bF rfl rfl ⟨(by omega), (by omega), trivial⟩ (by omega) ?_
    refine im_g 2 (y := (51, _, _, _)) rfl trivial ?_
    refine im_bF rfl rfl ⟨(by omega), (by omega), trivial⟩ (by omega) ?_
    refine im_g 9 (y := (69, _, _, _)) rfl ⟨(by omega), (by omega), trivial⟩ ?_
    refine im_b rfl rfl ⟨(by omega), (by omega), trivial⟩ (fun j1 => ?_) (fun j1 => ?_)
    · refine im_g 5 (y := (38, _, _, _)) rfl trivial ?_
      rw [show mv_bits (PR2 1) (PR2 2) (k + 1) = im_or (mv_bits (PR2 1) (PR2 2) k) (0) from by
        show im_or _ (if _ then _ else _) = _
        rw [if_pos (by omega)]] at ih
      exact ih
    · refine im_g 8 (y := (38, _, _, _)) rfl trivial ?_
      rw [show mv_bits (PR2 1) (PR2 2) (k + 1) = im_or (mv_bits (PR2 1) (PR2 2) k) (im_shl 1 (k : Int)) from by
        show im_or _ (if _ then _ else _) = _
        rw [if_neg (by omega)]] at ih
      exact ih
  · refine im_g 3 (y := (44, _, _, _)) rfl trivial ?_
    refine im_bT rfl rfl ⟨(by omega), (by omega), trivial⟩ (by omega) ?_
    refine im_g 1 (y := (89, _, _, _)) rfl trivial ?_
    refine im_r rfl rfl trivial rfl ?_
    refine ⟨congrArg (fun z => some (Sum.inl z)) (mv_congr _ (fun i q1 q2 => ⟨(o2 i q1 (by omega)).2, ?_⟩)), cv2, b2, s2, wd2, sv2, sR2, sg2, PR2, hk2, hpb2, rfl⟩
    rw [e2 2 (by decide)]
    show im_cpy (PR1 1) (PR1 2) 0 0 10 i = _
    rw [im_cpy_at, if_pos (by omega)]
    exact (o1 i q1 (by omega)).2
set_option maxHeartbeats 4000000 in
theorem c_draw (hd : 6 ≤ d) (hT : T.length < 1000) {v0 v : Nat → Int} {R : Nat → Int → Int} {g : Int → Option Nat} {lw : Option im_T} (hl : LWR v0 g T lw) {pv cv : Nat → Int} {b : Int} {s wd : Int → Int} {sv : Nat → Int} {sR : Nat → Int → Int} {sg : Int → Option Nat} {PR : Nat → Int → Int} (hb : b = 0 ∨ b = 1) (hs : SOK s) (hwd : WOK wd) {seed n : Int} (hn : 0 ≤ n ∧ n ≤ 100) (hz : DDI v0 0 (v, R, seed, 0)) : im_ct ro T d 34 [mr 0, mr 24, .inl seed, .inl n] (PC 0 pv cv b s wd sv sR sg PR ++ LC 24 v R g) (fun r w => r = some (.inl (dd lw n.toNat (v, R, seed, 0)).2.2.2) ∧ ∃ cv1 b1 s1 wd1, (b1 = 0 ∨ b1 = 1) ∧ SOK s1 ∧ WOK wd1 ∧ w = PC 0 pv cv1 b1 s1 wd1 sv sR sg PR ++ LC 24 (dd lw n.toNat (v, R, seed, 0)).1 (dd lw n.toNat (v, R, seed, 0)).2.1 g) := by
  obtain ⟨d, rfl⟩ : ∃ e, d = e + 1 := ⟨d - 1, by omega⟩
  have key : ∀ (j m : Nat), (m : Int) + j = n → ∀ (z : dd_S) (cv : Nat → Int) (b : Int) (s wd : Int → Int) (x7 x8 : Option im_V), DDI v0 m z → (b = 0 ∨ b = 1) → SOK s → WOK wd → im_wp ro (ab_Ev ro ab_codes d) 3 (some .int) ab_k_X3_drawDays 36 T (fun r w => r = some (.inl (dd lw j z).2.2.2) ∧ ∃ cv1 b1 s1 wd1, (b1 = 0 ∨ b1 = 1) ∧ SOK s1 ∧ WOK wd1 ∧ w = PC 0 pv cv1 b1 s1 wd1 sv sR sg PR ++ LC 24 (dd lw j z).1 (dd lw j z).2.1 g) (9, [some (mr 0), some (mr 24), some (.inl seed), some (.inl n), some (.inl (z.2.2.2)), some (.inl (z.2.2.1)), some (.inl ((m : Int))), x7, x8], [], PC 0 pv cv b s wd sv sR sg PR ++ LC 24 z.1 z.2.1 g) := by
    intro j
    induction j with
    | zero =>
      intro m hm z cv b s wd x7 x8 hi hb hs hwd
      have hi5 := hi.2.2.2.2
      refine im_g 2 (y := (12, _, _, _)) rfl trivial ?_
      refine im_bT rfl rfl ⟨(by omega), (by omega), trivial⟩ (by omega) ?_
      refine im_g 1 (y := (129, _, _, _)) rfl trivial ?_
      refine im_r rfl rfl trivial rfl ?_
      exact ⟨rfl, cv, b, s, wd, hb, hs, hwd, rfl⟩
    | succ j ih =>
      intro m hm z cv b s wd x7 x8 hi hb hs hwd
      have hi0 := hi
      obtain ⟨i1, i2, i3, i4, i5⟩ := hi0
      have hpar := lk_par i1
      have htr := lk_trm i1
      have r1 := dr_next_b (s := z.2.2.1)
      have r2 := dr_next_b (s := dr_next z.2.2.1)
      refine im_g 2 (y := (12, _, _, _)) rfl trivial ?_
      refine im_bF rfl rfl ⟨(by omega), (by omega), trivial⟩ (by omega) ?_
      refine im_g 5 (y := (24, _, _, _)) rfl ⟨(by omega), trivial⟩ ?_
      refine im_b rfl rfl ⟨(by omega), (by omega), trivial⟩ (fun j1 => ?_) (fun j1 => ?_)
      · refine im_g 1 (y := (129, _, _, _)) rfl trivial ?_
        refine im_r rfl rfl trivial rfl ?_
        rw [show dd lw (j + 1) z = z from if_neg (by omega)]
        exact ⟨rfl, cv, b, s, wd, hb, hs, hwd, rfl⟩
      · refine im_g 2 (y := (31, _, _, _)) rfl trivial ?_
        refine im_b rfl rfl ⟨(by omega), trivial⟩ (fun j2 => ?_) (fun j2 => ?_)
        · refine im_g 1 (y := (129, _, _, _)) rfl trivial ?_
          refine im_r rfl rfl trivial rfl ?_
          rw [show dd lw (j + 1) z = z from if_neg (by omega)]
          exact ⟨rfl, cv, b, s, wd, hb, hs, hwd, rfl⟩
        · refine im_g 1 (y := (36, _, _, _)) rfl trivial ?_
          refine im_call [] rfl rfl (c_drawn (s := z.2.2.1) (by omega) hT (by omega)) rfl rfl rfl (by decide) rfl (by decide) hT (fun v1 w1 hq => ?_)
          obtain ⟨rfl, rfl⟩ := hq
          refine ⟨_, _, PC 0 pv cv b s wd sv sR sg PR ++ LC 24 z.1 z.2.1 g, rfl, rfl, rfl, ?_⟩
          refine im_g 5 (y := (48, _, _, _)) rfl ⟨(by omega), (by omega), (by omega), trivial⟩ ?_
          have q1 : (dr_next z.2.2.1).tmod (z.1 0) = (dr_next z.2.2.1 % z.1 0) := Int.tmod_eq_emod_of_nonneg (by omega)
          rw [q1]
          have q2 := Int.emod_nonneg (dr_next z.2.2.1) (show z.1 0 ≠ 0 by omega)
          have q3 := Int.emod_lt_of_pos (dr_next z.2.2.1) (show 0 < z.1 0 by omega)
          refine im_g 2 (y := (52, _, _, _)) rfl trivial ?_
          refine im_call [] rfl rfl (c_drawn (s := dr_next z.2.2.1) (by omega) hT (by omega)) rfl rfl rfl (by decide) rfl (by decide) hT (fun v1 w1 hq => ?_)
          obtain ⟨rfl, rfl⟩ := hq
          refine ⟨_, _, PC 0 pv cv b s wd sv sR sg PR ++ LC 24 z.1 z.2.1 g, rfl, rfl, rfl, ?_⟩
          refine im_g 4 (y := (61, _, _, _)) rfl ⟨(by omega), (by omega), (by omega), trivial⟩ ?_
          have q4 : (dr_next (dr_next z.2.2.1)).tmod 3 = (dr_next (dr_next z.2.2.1) % 3) := Int.tmod_eq_emod_of_nonneg (by omega)
          rw [q4]
          refine im_g 2 (y := (65, _, _, _)) rfl trivial ?_
          refine im_b rfl rfl ⟨(by omega), trivial⟩ (fun j3 => ?_) (fun j3 => ?_)
          · refine im_g 2 (y := (82, _, _, _)) rfl trivial ?_
            refine im_b rfl rfl ⟨(by omega), (by omega), trivial⟩ (fun j4 => ?_) (fun j4 => ?_)
            · refine im_g 4 (y := (103, _, _, _)) rfl trivial ?_
              refine im_call [24,25,26,27,28,29,30,31,32,33,34,35,1,2,3,4] rfl rfl (c_send (by omega) hT i1 (by omega) (LWR_5 hl i3) (cv := cv) hb hs hwd (p := (dr_next z.2.2.1 % z.1 0)) (by omega)) rfl rfl rfl (by decide) rfl (by decide) hT (fun v1 w1 hq => ?_)
              obtain ⟨rfl, cv1, b1, s1, wd1, hb1, hs1, hwd1, rfl⟩ := hq
              refine ⟨_, _, PC 0 pv cv1 b1 s1 wd1 sv sR sg PR ++ LC 24 (pl_send lw (dr_next z.2.2.1 % z.1 0) z.1 z.2.1).2.1 (pl_send lw (dr_next z.2.2.1 % z.1 0) z.1 z.2.1).2.2 g, rfl, rfl, rfl, ?_⟩
              refine im_g 1 (y := (107, _, _, _)) rfl trivial ?_
              have ea : (dd_act lw (dr_next (dr_next z.2.2.1) % 3) (dr_next z.2.2.1 % z.1 0) z.1 z.2.1) = (pl_send lw (dr_next z.2.2.1 % z.1 0) z.1 z.2.1).2 := (if_neg (by omega)).trans (if_neg (by omega))
              obtain ⟨a1, a2, a3⟩ := dd_act_ok lw (dr_next (dr_next z.2.2.1) % 3) (dr_next z.2.2.1 % z.1 0) i1
              obtain ⟨d1, d2, d3, d4⟩ := LOK_day a1
              refine im_eqs (y := (107, [some (mr 0), some (mr 24), some (.inl seed), some (.inl n), some (.inl (z.2.2.2)), some (.inl (dr_next (dr_next z.2.2.1))), some (.inl ((m : Int))), some (.inl (dr_next z.2.2.1 % z.1 0)), some (.inl (dr_next (dr_next z.2.2.1) % 3))], [], PC 0 pv cv1 b1 s1 wd1 sv sR sg PR ++ LC 24 (dd_act lw (dr_next (dr_next z.2.2.1) % 3) (dr_next z.2.2.1 % z.1 0) z.1 z.2.1).1 (dd_act lw (dr_next (dr_next z.2.2.1) % 3) (dr_next z.2.2.1 % z.1 0) z.1 z.2.1).2 g)) (by rw [ea]; rfl) ?_
              refine im_g 1 (y := (108, _, _, _)) rfl trivial ?_
              refine im_call [24,25,26,27,28,29,30,31,32,33,34,35] rfl rfl (c_passDay (by omega) hT (g := g) a1 (by rw [a2]; omega)) rfl rfl rfl (by decide) rfl (by decide) hT (fun v1 w1 hq => ?_)
              obtain ⟨rfl, rfl⟩ := hq
              refine ⟨_, _, PC 0 pv cv1 b1 s1 wd1 sv sR sg PR ++ LC 24 (pl_day (dd_act lw (dr_next (dr_next z.2.2.1) % 3) (dr_next z.2.2.1 % z.1 0) z.1 z.2.1).1 (dd_act lw (dr_next (dr_next z.2.2.1) % 3) (dr_next z.2.2.1 % z.1 0) z.1 z.2.1).2).2.1 (pl_day (dd_act lw (dr_next (dr_next z.2.2.1) % 3) (dr_next z.2.2.1 % z.1 0) z.1 z.2.1).1 (dd_act lw (dr_next (dr_next z.2.2.1) % 3) (dr_next z.2.2.1 % z.1 0) z.1 z.2.1).2).2.2 g, rfl, rfl, rfl, ?_⟩
              refine im_g 8 (y := (9, _, _, _)) rfl trivial ?_
              rw [show dd lw (j + 1) z = dd lw j (dd_1 lw z) from if_pos (by omega)]
              exact ih (m + 1) (by omega) (dd_1 lw z) cv1 b1 s1 wd1 _ _ (DDI_1 hi (by omega)) hb1 hs1 hwd1
            · refine im_g 3 (y := (89, _, _, _)) rfl trivial ?_
              refine im_call [24,25,26,27,28,29,30,31,32,33,34,35] rfl rfl (c_growBy (v := z.1) (R := z.2.1) (g := g) (p := (dr_next z.2.2.1 % z.1 0)) (b := -1) (by omega) hT (by omega) (by decide) i1) rfl rfl rfl (by decide) rfl (by decide) hT (fun v1 w1 hq => ?_)
              obtain ⟨rfl, rfl⟩ := hq
              refine ⟨_, _, PC 0 pv cv b s wd sv sR sg PR ++ LC 24 z.1 (pl_growBy (dr_next z.2.2.1 % z.1 0) (-1) z.1 z.2.1).2 g, rfl, rfl, rfl, ?_⟩
              refine im_g 2 (y := (107, _, _, _)) rfl trivial ?_
              have ea : (dd_act lw (dr_next (dr_next z.2.2.1) % 3) (dr_next z.2.2.1 % z.1 0) z.1 z.2.1) = (z.1, (pl_growBy (dr_next z.2.2.1 % z.1 0) (-1) z.1 z.2.1).2) := (if_neg (by omega)).trans (if_pos (by omega))
              obtain ⟨a1, a2, a3⟩ := dd_act_ok lw (dr_next (dr_next z.2.2.1) % 3) (dr_next z.2.2.1 % z.1 0) i1
              obtain ⟨d1, d2, d3, d4⟩ := LOK_day a1
              refine im_eqs (y := (107, [some (mr 0), some (mr 24), some (.inl seed), some (.inl n), some (.inl (z.2.2.2)), some (.inl (dr_next (dr_next z.2.2.1))), some (.inl ((m : Int))), some (.inl (dr_next z.2.2.1 % z.1 0)), some (.inl (dr_next (dr_next z.2.2.1) % 3))], [], PC 0 pv cv b s wd sv sR sg PR ++ LC 24 (dd_act lw (dr_next (dr_next z.2.2.1) % 3) (dr_next z.2.2.1 % z.1 0) z.1 z.2.1).1 (dd_act lw (dr_next (dr_next z.2.2.1) % 3) (dr_next z.2.2.1 % z.1 0) z.1 z.2.1).2 g)) (by rw [ea]; rfl) ?_
              refine im_g 1 (y := (108, _, _, _)) rfl trivial ?_
              refine im_call [24,25,26,27,28,29,30,31,32,33,34,35] rfl rfl (c_passDay (by omega) hT (g := g) a1 (by rw [a2]; omega)) rfl rfl rfl (by decide) rfl (by decide) hT (fun v1 w1 hq => ?_)
              obtain ⟨rfl, rfl⟩ := hq
              refine ⟨_, _, PC 0 pv cv b s wd sv sR sg PR ++ LC 24 (pl_day (dd_act lw (dr_next (dr_next z.2.2.1) % 3) (dr_next z.2.2.1 % z.1 0) z.1 z.2.1).1 (dd_act lw (dr_next (dr_next z.2.2.1) % 3) (dr_next z.2.2.1 % z.1 0) z.1 z.2.1).2).2.1 (pl_day (dd_act lw (dr_next (dr_next z.2.2.1) % 3) (dr_next z.2.2.1 % z.1 0) z.1 z.2.1).1 (dd_act lw (dr_next (dr_next z.2.2.1) % 3) (dr_next z.2.2.1 % z.1 0) z.1 z.2.1).2).2.2 g, rfl, rfl, rfl, ?_⟩
              refine im_g 8 (y := (9, _, _, _)) rfl trivial ?_
              rw [show dd lw (j + 1) z = dd lw j (dd_1 lw z) from if_pos (by omega)]
              exact ih (m + 1) (by omega) (dd_1 lw z) cv b s wd _ _ (DDI_1 hi (by omega)) hb hs hwd
          · refine im_g 3 (y := (72, _, _, _)) rfl trivial ?_
            refine im_call [24,25,26,27,28,29,30,31,32,33,34,35] rfl rfl (c_growBy (v := z.1) (R := z.2.1) (g := g) (p := (dr_next z.2.2.1 % z.1 0)) (b := 1) (by omega) hT (by omega) (by decide) i1) rfl rfl rfl (by decide) rfl (by decide) hT (fun v1 w1 hq => ?_)
            obtain ⟨rfl, rfl⟩ := hq
            refine ⟨_, _, PC 0 pv cv b s wd sv sR sg PR ++ LC 24 z.1 (pl_growBy (dr_next z.2.2.1 % z.1 0) (1) z.1 z.2.1).2 g, rfl, rfl, rfl, ?_⟩
            refine im_g 2 (y := (107, _, _, _)) rfl trivial ?_
            have ea : (dd_act lw (dr_next (dr_next z.2.2.1) % 3) (dr_next z.2.2.1 % z.1 0) z.1 z.2.1) = (z.1, (pl_growBy (dr_next z.2.2.1 % z.1 0) 1 z.1 z.2.1).2) := if_pos (by omega)
            obtain ⟨a1, a2, a3⟩ := dd_act_ok lw (dr_next (dr_next z.2.2.1) % 3) (dr_next z.2.2.1 % z.1 0) i1
            obtain ⟨d1, d2, d3, d4⟩ := LOK_day a1
            refine im_eqs (y := (107, [some (mr 0), some (mr 24), some (.inl seed), some (.inl n), some (.inl (z.2.2.2)), some (.inl (dr_next (dr_next z.2.2.1))), some (.inl ((m : Int))), some (.inl (dr_next z.2.2.1 % z.1 0)), some (.inl (dr_next (dr_next z.2.2.1) % 3))], [], PC 0 pv cv b s wd sv sR sg PR ++ LC 24 (dd_act lw (dr_next (dr_next z.2.2.1) % 3) (dr_next z.2.2.1 % z.1 0) z.1 z.2.1).1 (dd_act lw (dr_next (dr_next z.2.2.1) % 3) (dr_next z.2.2.1 % z.1 0) z.1 z.2.1).2 g)) (by rw [ea]; rfl) ?_
            refine im_g 1 (y := (108, _, _, _)) rfl trivial ?_
            refine im_call [24,25,26,27,28,29,30,31,32,33,34,35] rfl rfl (c_passDay (by omega) hT (g := g) a1 (by rw [a2]; omega)) rfl rfl rfl (by decide) rfl (by decide) hT (fun v1 w1 hq => ?_)
            obtain ⟨rfl, rfl⟩ := hq
            refine ⟨_, _, PC 0 pv cv b s wd sv sR sg PR ++ LC 24 (pl_day (dd_act lw (dr_next (dr_next z.2.2.1) % 3) (dr_next z.2.2.1 % z.1 0) z.1 z.2.1).1 (dd_act lw (dr_next (dr_next z.2.2.1) % 3) (dr_next z.2.2.1 % z.1 0) z.1 z.2.1).2).2.1 (pl_day (dd_act lw (dr_next (dr_next z.2.2.1) % 3) (dr_next z.2.2.1 % z.1 0) z.1 z.2.1).1 (dd_act lw (dr_next (dr_next z.2.2.1) % 3) (dr_next z.2.2.1 % z.1 0) z.1 z.2.1).2).2.2 g, rfl, rfl, rfl, ?_⟩
            refine im_g 8 (y := (9, _, _, _)) rfl trivial ?_
            rw [show dd lw (j + 1) z = dd lw j (dd_1 lw z) from if_pos (by omega)]
            exact ih (m + 1) (by omega) (dd_1 lw z) cv b s wd _ _ (DDI_1 hi (by omega)) hb hs hwd
  refine im_ct_of (own := 3) (ret := (some .int)) (code := ab_k_X3_drawDays) (nL := 9) (L0 := [some (mr 0), some (mr 24), some (.inl seed), some (.inl n), none, none, none, none, none]) (n := 36) rfl rfl rfl rfl rfl rfl rfl rfl rfl ?_
  refine im_g 6 (y := (9, _, _, _)) rfl trivial ?_
  exact key n.toNat 0 (by omega) (v, R, seed, 0) cv b s wd none none hz hb hs hwd
end Pr
