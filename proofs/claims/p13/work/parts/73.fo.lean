/-! paper: days to come -/
section Fo
variable {ro : ab_R} {T : List im_T} {d : Nat}
set_option maxHeartbeats 8000000 in
theorem c_flow (hd : 6 ≤ d) (hT : T.length < 1000) {v : Nat → Int} {R : Nat → Int → Int} {g : Int → Option Nat} (h : LOK v R) (hday : R 7 0 ≤ 100000) (hg : GV g T) {lw : Option im_T} (hl : LWR v g T lw) (hd9 : R 7 0 ≤ 999) {pv cv : Nat → Int} {b : Int} {s wd : Int → Int} {sv : Nat → Int} {sR : Nat → Int → Int} {sg : Int → Option Nat} {PR : Nat → Int → Int} (hk : PKO b s wd sv sR PR) (hpb : PRB PR) {n : Int} (hn : 0 ≤ n ∧ n ≤ 60) : im_ct ro T d 33 [mr 0, mr 24, .inl n] (PC 0 pv cv b s wd sv sR sg PR ++ LC 24 v R g) (fun r w => r = none ∧ ∃ pv1 cv1 b1 s1 wd1, (b1 = 0 ∨ b1 = 1) ∧ SOK s1 ∧ WOK wd1 ∧ ((∀ j, j < 8 → pv1 j = pv j) ∧ pv1 8 = (ff lw (pl_v sv v) (pl_R sR R) n.toNat).2.2.1 ∧ pv1 9 = (ff lw (pl_v sv v) (pl_R sR R) n.toNat).2.2.2.1 ∧ pv1 10 = (ff lw (pl_v sv v) (pl_R sR R) n.toNat).2.2.2.2) ∧ w = PC 0 pv1 cv1 b1 s1 wd1 (ff lw (pl_v sv v) (pl_R sR R) n.toNat).1 (ff lw (pl_v sv v) (pl_R sR R) n.toNat).2.1 (pl_g sg g 6) PR ++ LC 24 v R g) := by
  obtain ⟨d, rfl⟩ : ∃ e, d = e + 1 := ⟨d - 1, by omega⟩
  have hp0 := lk_par h
  obtain ⟨hb, hs, hwd, hsh, hs6, hpr⟩ := hk
  have hls : LOK (pl_v sv v) (pl_R sR R) := LOK_take hsh h
  have hlw : LWR (pl_v sv v) (pl_g sg g 6) T lw := LWR_take h hl
  have hd7 : (pl_R sR R) 7 0 ≤ 999 := by
    have e := (pl_R_q sR R 0 (by decide) (by decide)).2.2.2.2.1
    omega
  have key : ∀ (j m : Nat), (m : Int) + j = n → ∀ (pvx cv : Nat → Int) (b : Int) (s wd : Int → Int) (x4 : Option im_V), (b = 0 ∨ b = 1) → SOK s → WOK wd → ((∀ j, j < 8 → pvx j = pv j) ∧ pvx 8 = (ff lw (pl_v sv v) (pl_R sR R) m).2.2.1 ∧ pvx 9 = (ff lw (pl_v sv v) (pl_R sR R) m).2.2.2.1 ∧ pvx 10 = (ff lw (pl_v sv v) (pl_R sR R) m).2.2.2.2) → im_wp ro (ab_Ev ro ab_codes d) 3 none ab_k_X3_findFlow 36 T (fun r w => r = none ∧ ∃ pv1 cv1 b1 s1 wd1, (b1 = 0 ∨ b1 = 1) ∧ SOK s1 ∧ WOK wd1 ∧ ((∀ j, j < 8 → pv1 j = pv j) ∧ pv1 8 = (ff lw (pl_v sv v) (pl_R sR R) n.toNat).2.2.1 ∧ pv1 9 = (ff lw (pl_v sv v) (pl_R sR R) n.toNat).2.2.2.1 ∧ pv1 10 = (ff lw (pl_v sv v) (pl_R sR R) n.toNat).2.2.2.2) ∧ w = PC 0 pv1 cv1 b1 s1 wd1 (ff lw (pl_v sv v) (pl_R sR R) n.toNat).1 (ff lw (pl_v sv v) (pl_R sR R) n.toNat).2.1 (pl_g sg g 6) PR ++ LC 24 v R g) (25, [some (mr 0), some (mr 24), some (.inl n), some (.inl ((m : Int) + 1)), x4], [], PC 0 pvx cv b s wd (ff lw (pl_v sv v) (pl_R sR R) m).1 (ff lw (pl_v sv v) (pl_R sR R) m).2.1 (pl_g sg g 6) PR ++ LC 24 v R g) := by
    intro j
    induction j with
    | zero =>
      intro m hm pvx cv b s wd x4 hb hs hwd hpv
      refine im_g 2 (y := (27, _, _, _)) rfl trivial ?_
      refine im_bT rfl rfl ⟨(by omega), (by omega), trivial⟩ (by omega) ?_
      refine im_r rfl rfl trivial rfl ?_
      obtain rfl : m = n.toNat := by omega
      exact ⟨rfl, pvx, cv, b, s, wd, hb, hs, hwd, hpv, rfl⟩
    | succ j ih =>
      intro m hm pvx cv b s wd x4 hb hs hwd hpv
      have hI := FFI_m lw hls hd7 m
      have e9 : (ff lw (pl_v sv v) (pl_R sR R) (m + 1)) = ff_1 lw ((m : Int) + 1) (ff lw (pl_v sv v) (pl_R sR R) m) := rfl
      generalize (ff lw (pl_v sv v) (pl_R sR R) m) = z at hI e9 hpv ⊢
      obtain ⟨pv0, pv8, pv9, pv10⟩ := hpv
      obtain ⟨d1, d2, d3, d4, d5⟩ := ff_d_ok (lw := lw) hI
      have hI2 := FFI_1 (lw := lw) hI (by omega)
      obtain ⟨i1, i2, i3, i4, i5, i6, i7⟩ := hI
      have hv0 := lk_par i1
      have hdg := lk_grp d1
      have hz0 : z.1 0 = v 0 := i4
      have go : ∀ (p k : Nat), k + p = (z.1 0).toNat → ∀ (cv : Nat → Int) (b : Int) (s wd : Int → Int), (b = 0 ∨ b = 1) → SOK s → WOK wd → im_wp ro (ab_Ev ro ab_codes d) 3 none ab_k_X3_findFlow 36 T (fun r w => r = none ∧ ∃ pv1 cv1 b1 s1 wd1, (b1 = 0 ∨ b1 = 1) ∧ SOK s1 ∧ WOK wd1 ∧ ((∀ j, j < 8 → pv1 j = pv j) ∧ pv1 8 = (ff lw (pl_v sv v) (pl_R sR R) n.toNat).2.2.1 ∧ pv1 9 = (ff lw (pl_v sv v) (pl_R sR R) n.toNat).2.2.2.1 ∧ pv1 10 = (ff lw (pl_v sv v) (pl_R sR R) n.toNat).2.2.2.2) ∧ w = PC 0 pv1 cv1 b1 s1 wd1 (ff lw (pl_v sv v) (pl_R sR R) n.toNat).1 (ff lw (pl_v sv v) (pl_R sR R) n.toNat).2.1 (pl_g sg g 6) PR ++ LC 24 v R g) (33, [some (mr 0), some (mr 24), some (.inl n), some (.inl ((m : Int) + 1)), some (.inl (k : Int))], [], PC 0 pvx cv b s wd (ff_go lw z.1 z.2.1 k).1 (ff_go lw z.1 z.2.1 k).2 (pl_g sg g 6) PR ++ LC 24 v R g) := by
        intro p
        induction p with
        | zero =>
          intro k hk cv b s wd hb hs hwd
          obtain rfl : k = (z.1 0).toNat := by omega
          obtain ⟨g1, g2, g3, g4⟩ := ff_go_ok lw i1 (z.1 0).toNat
          have hpr7 : (ff_go lw z.1 z.2.1 (z.1 0).toNat).2 7 0 ≤ 100000 := by rw [g2]; omega
          refine im_g 4 (y := (42, _, _, _)) rfl trivial ?_
          refine im_bT rfl rfl ⟨(by first | (rw [g4]; constructor <;> omega) | omega), (by first | (rw [g4]; constructor <;> omega) | omega), trivial⟩ (by rw [g4]; omega) ?_
          refine im_g 2 (y := (69, _, _, _)) rfl trivial ?_
          refine im_call [5,6,7,8,9,10,11,12,13,14,15,16] rfl rfl (c_passDay (by omega) hT (v := (ff_go lw z.1 z.2.1 (z.1 0).toNat).1) (R := (ff_go lw z.1 z.2.1 (z.1 0).toNat).2) (g := (pl_g sg g 6)) g1 hpr7) rfl rfl rfl (by decide) rfl (by decide) hT (fun v1 w1 hq => ?_)
          obtain ⟨rfl, rfl⟩ := hq
          refine ⟨_, _, PC 0 pvx cv b s wd (ff_d lw z).1 (ff_d lw z).2 (pl_g sg g 6) PR ++ LC 24 v R g, rfl, rfl, rfl, ?_⟩
          refine im_g 3 (y := (77, _, _, _)) rfl trivial ?_
          refine im_b rfl rfl ⟨(by rw [pv8]; constructor <;> omega), trivial⟩ (fun j1 => ?_) (fun j1 => ?_)
          · refine im_g 18 (y := (25, _, _, _)) rfl ⟨(by omega), (by omega), trivial⟩ ?_
            have ef : (if z.2.2.1 = 0 ∧ 0 < (ff_d lw z).1 6 then (m : Int) + 1 else z.2.2.1) = z.2.2.1 := if_neg (by omega)
            have t := ih (m + 1) (by omega) (pl_U (pl_U pvx 9 (pvx 9 + (ff_d lw z).1 6)) 10 (max (pvx 10) ((ff_d lw z).1 1))) cv b s wd (some (.inl ((z.1 0).toNat : Int))) hb hs hwd (by rw [e9]; exact ⟨fun j hj => by unfold pl_U; rw [if_neg (by omega), if_neg (by omega)]; exact pv0 j hj, pv8.trans ef.symm, by show pvx 9 + _ = z.2.2.2.1 + _; rw [pv9], by show max (pvx 10) _ = max z.2.2.2.2 _; rw [pv10]⟩)
            rw [e9] at t
            rw [show ((m + 1 : Nat) : Int) + 1 = (m : Int) + 1 + 1 by omega] at t
            exact t
          · refine im_g 3 (y := (87, _, _, _)) rfl trivial ?_
            refine im_b rfl rfl ⟨(by omega), trivial⟩ (fun j2 => ?_) (fun j2 => ?_)
            · refine im_g 18 (y := (25, _, _, _)) rfl ⟨(by omega), (by omega), trivial⟩ ?_
              have ef : (if z.2.2.1 = 0 ∧ 0 < (ff_d lw z).1 6 then (m : Int) + 1 else z.2.2.1) = z.2.2.1 := if_neg (by omega)
              have t := ih (m + 1) (by omega) (pl_U (pl_U pvx 9 (pvx 9 + (ff_d lw z).1 6)) 10 (max (pvx 10) ((ff_d lw z).1 1))) cv b s wd (some (.inl ((z.1 0).toNat : Int))) hb hs hwd (by rw [e9]; exact ⟨fun j hj => by unfold pl_U; rw [if_neg (by omega), if_neg (by omega)]; exact pv0 j hj, pv8.trans ef.symm, by show pvx 9 + _ = z.2.2.2.1 + _; rw [pv9], by show max (pvx 10) _ = max z.2.2.2.2 _; rw [pv10]⟩)
              rw [e9] at t
              rw [show ((m + 1 : Nat) : Int) + 1 = (m : Int) + 1 + 1 by omega] at t
              exact t
            · refine im_g 21 (y := (25, _, _, _)) rfl ⟨(by omega), (by omega), trivial⟩ ?_
              have ef : (if z.2.2.1 = 0 ∧ 0 < (ff_d lw z).1 6 then (m : Int) + 1 else z.2.2.1) = (m : Int) + 1 := if_pos (by omega)
              have t := ih (m + 1) (by omega) (pl_U (pl_U (pl_U pvx 8 ((m : Int) + 1)) 9 (pvx 9 + (ff_d lw z).1 6)) 10 (max (pvx 10) ((ff_d lw z).1 1))) cv b s wd (some (.inl ((z.1 0).toNat : Int))) hb hs hwd (by rw [e9]; exact ⟨fun j hj => by unfold pl_U; rw [if_neg (by omega), if_neg (by omega), if_neg (by omega)]; exact pv0 j hj, ef.symm, by show pvx 9 + _ = z.2.2.2.1 + _; rw [pv9], by show max (pvx 10) _ = max z.2.2.2.2 _; rw [pv10]⟩)
              rw [e9] at t
              rw [show ((m + 1 : Nat) : Int) + 1 = (m : Int) + 1 + 1 by omega] at t
              exact t
        | succ p ihp =>
          intro k hk cv b s wd hb hs hwd
          obtain ⟨g1, g2, g3, g4⟩ := ff_go_ok lw i1 k
          have hpr7 : (ff_go lw z.1 z.2.1 k).2 7 0 ≤ 100000 := by rw [g2]; omega
          refine im_g 4 (y := (42, _, _, _)) rfl trivial ?_
          refine im_bF rfl rfl ⟨(by first | (rw [g4]; constructor <;> omega) | omega), (by first | (rw [g4]; constructor <;> omega) | omega), trivial⟩ (by rw [g4]; omega) ?_
          refine im_g 5 (y := (55, _, _, _)) rfl trivial ?_
          refine im_call [5,6,7,8,9,10,11,12,13,14,15,16,1,2,3,4] rfl rfl (c_send (by omega) hT (v := (ff_go lw z.1 z.2.1 k).1) (R := (ff_go lw z.1 z.2.1 k).2) (g := (pl_g sg g 6)) g1 hpr7 (LWR_5 hlw (g3.trans i3)) (cv := cv) hb hs hwd (p := (k : Int)) (by omega)) rfl rfl rfl (by decide) rfl (by decide) hT (fun v1 w1 hq => ?_)
          obtain ⟨rfl, cv1, b1, s1, wd1, hb1, hs1, hwd1, rfl⟩ := hq
          refine ⟨_, _, PC 0 pvx cv1 b1 s1 wd1 (pl_send lw (k : Int) (ff_go lw z.1 z.2.1 k).1 (ff_go lw z.1 z.2.1 k).2).2.1 (pl_send lw (k : Int) (ff_go lw z.1 z.2.1 k).1 (ff_go lw z.1 z.2.1 k).2).2.2 (pl_g sg g 6) PR ++ LC 24 v R g, rfl, rfl, rfl, ?_⟩
          refine im_g 3 (y := (33, _, _, _)) rfl trivial ?_
          exact ihp (k + 1) (by omega) cv1 b1 s1 wd1 hb1 hs1 hwd1
      refine im_g 2 (y := (27, _, _, _)) rfl trivial ?_
      refine im_bF rfl rfl ⟨(by omega), (by omega), trivial⟩ (by omega) ?_
      refine im_g 2 (y := (33, _, _, _)) rfl trivial ?_
      exact go (z.1 0).toNat 0 (by omega) cv b s wd hb hs hwd
  refine im_ct_of (own := 3) (ret := none) (code := ab_k_X3_findFlow) (nL := 5) (L0 := [some (mr 0), some (mr 24), some (.inl n), none, none]) (n := 36) rfl rfl rfl rfl rfl rfl rfl rfl rfl ?_
  refine im_g 3 (y := (5, _, _, _)) rfl trivial ?_
  refine im_call [5,6,7,8,9,10,11,12,13,14,15,16,24,25,26,27,28,29,30,31,32,33,34,35] rfl rfl (c_takeFrom (v := sv) (v2 := v) (R := sR) (R2 := R) (g := sg) (g2 := g) (by omega) hT (fun t z => hg _ t z)) rfl rfl rfl (by decide) rfl (by decide) hT (fun v1 w1 hq => ?_)
  obtain ⟨rfl, rfl⟩ := hq
  refine ⟨_, _, PC 0 pv cv b s wd (pl_v sv v) (pl_R sR R) (pl_g sg g 6) PR ++ LC 24 v R g, rfl, rfl, rfl, ?_⟩
  refine im_g 11 (y := (25, _, _, _)) rfl trivial ?_
  exact key n.toNat 0 (by omega) (pl_U (pl_U (pl_U pv 8 0) 9 0) 10 0) cv b s wd none hb hs hwd ⟨fun j hj => by unfold pl_U; rw [if_neg (by omega), if_neg (by omega), if_neg (by omega)], rfl, rfl, rfl⟩
end Fo
