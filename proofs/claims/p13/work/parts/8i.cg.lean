/-! the class's calls: what is asked on paper (1) -/
theorem PKO_pr {b : Int} {s wd : Int → Int} {sv : Nat → Int} {sR PR PR1 : Nat → Int → Int} (h : PKO b s wd sv sR PR) (hp : PRB PR1) (h4 : PR1 4 = PR 4) : PKO b s wd sv sR PR1 := by
  obtain ⟨h1, h2, h3, h5, h6, h7⟩ := h
  refine ⟨h1, h2, h3, h5, h6, fun r i => ?_⟩
  by_cases e : r = 4
  · subst e
    rw [h4]
    exact h7 4 i
  · have := hp r i e
    omega
theorem PKO_cu {b b1 : Int} {s wd s1 wd1 : Int → Int} {sv : Nat → Int} {sR PR : Nat → Int → Int} (h : PKO b s wd sv sR PR) (h1 : b1 = 0 ∨ b1 = 1) (h2 : SOK s1) (h3 : WOK wd1) : PKO b1 s1 wd1 sv sR PR := ⟨h1, h2, h3, h.2.2.2⟩
section Cg
variable {ro : ab_R} {T : List im_T} {d : Nat} {xv : Nat → Int} {v : Nat → Int} {R : Nat → Int → Int} {g : Int → Option Nat} {ik : Int → Int} {y : cw_L} {f k : Int} {rw_ : Int → Int} {cv : Nat → Int} {cb : Int} {cs cwd : Int → Int} {U : cw_U} {W : cw_R} {fr : Int → Int} {I0 I1 : cw_L} {pv pcv : Nat → Int} {pb : Int} {ps pwd : Int → Int} {sv : Nat → Int} {sR : Nat → Int → Int} {sg : Int → Option Nat} {PR : Nat → Int → Int}
set_option maxHeartbeats 16000000 in
theorem cw_once (hd : 7 ≤ d) (hT : T.length < 1000) {lw : Option im_T} (h : LOK v R) (hday : R 7 0 ≤ 999) (hg : GV g T) (hl : LWR v g T lw) (hk : PKO pb ps pwd sv sR PR) (hpb : PRB PR) {p : Int} (hp : im_ir p) : im_ct ro T d 98 [mr 0, .inl p] (CW (xv, (v, R, g), ik, y, (f, k, rw_), (cv, cb, cs, cwd), U, (pv, (pcv, pb, ps, pwd), (sv, sR, sg), PR), W, fr, I0, I1)) (fun r w => r = some (.inl (if p = -1 then (on_all lw 0 (-1) 0 v R).1 6 else if 0 ≤ p ∧ p < v 0 then (on_all lw 0 (-1) 0 v R).2.2.2 p else -1)) ∧ ∃ pv1 pcv1 pb1 ps1 pwd1 sv1 sR1 sg1 PR1, PKO pb1 ps1 pwd1 sv1 sR1 PR1 ∧ PRB PR1 ∧ w = CW (xv, (v, R, g), ik, y, (f, k, rw_), (cv, cb, cs, cwd), U, (pv1, (pcv1, pb1, ps1, pwd1), (sv1, sR1, sg1), PR1), W, fr, I0, I1)) := by
  obtain ⟨d, rfl⟩ : ∃ e, d = e + 1 := ⟨d - 1, by omega⟩
  have hpar := lk_par h
  refine im_ct_of (own := 8) (ret := (some .int)) (code := ab_k_X8_once) (nL := 3) (L0 := [some (mr 0), some (.inl p), none]) (n := 95) rfl rfl rfl rfl rfl rfl rfl rfl rfl ?_
  refine im_g 2 (y := (2, _, _, _)) rfl trivial ?_
  refine im_b rfl rfl ⟨(by omega), (by omega), trivial⟩ (fun j1 => ?_) (fun j1 => ?_)
  · refine im_g 7 (y := (29, _, _, _)) rfl trivial ?_
    refine im_cPL rfl rfl (c_once (lw := lw) (by omega) hT h (by omega) hg hl (pv := pv) (cv := pcv) (sg := sg) hk hpb (c := -1) (y := 0) (ten := 0) (by decide) (by decide) (by decide) (fun q1 q2 => absurd q1 (by decide))) rfl hT (fun v1 w1 hq => ?_)
    obtain ⟨rfl, pcv1, pb1, ps1, pwd1, sv1, sR1, sg1, PR1, hk1, hfr, hrow, hpb1, rfl⟩ := hq
    refine ⟨_, _, _, _, _, _, _, _, _, _, _, _, _, rfl, rfl, ?_⟩
    refine im_g 3 (y := (35, _, _, _)) rfl trivial ?_
    refine im_b rfl rfl ⟨(by omega), (by omega), trivial⟩ (fun j2 => ?_) (fun j2 => ?_)
    · refine im_g 5 (y := (51, _, _, _)) rfl ⟨(by omega), trivial⟩ ?_
      refine im_r rfl rfl trivial rfl ?_
      exfalso
      omega
    · refine im_g 2 (y := (51, _, _, _)) rfl trivial ?_
      refine im_r rfl rfl trivial rfl ?_
      refine ⟨congrArg (fun z => some (Sum.inl z)) ?_, pv, pcv1, pb1, ps1, pwd1, sv1, sR1, sg1, PR1, hk1, hpb1, rfl⟩
      rw [if_pos (by omega)]
  · refine im_g 3 (y := (10, _, _, _)) rfl trivial ?_
    refine im_cL rfl rfl (c_has (v := v) (R := R) (g := g) (p := p) (by omega) hT hp (lk_par h)) rfl hT (fun v1 w1 hq => ?_)
    obtain ⟨rfl, rfl⟩ := hq
    refine ⟨_, _, _, _, rfl, rfl, ?_⟩
    refine im_b rfl rfl ⟨(by first | decide | (split <;> decide)), trivial⟩ (fun j3 => ?_) (fun j3 => ?_)
    · have hpp : 0 ≤ p ∧ p < v 0 := by
        by_cases cz : 0 ≤ p ∧ p < v 0 ∧ p < 10
        · exact ⟨cz.1, cz.2.1⟩
        · rw [if_neg cz] at j3; exact absurd rfl j3
      clear j3
      refine im_g 7 (y := (29, _, _, _)) rfl trivial ?_
      refine im_cPL rfl rfl (c_once (lw := lw) (by omega) hT h (by omega) hg hl (pv := pv) (cv := pcv) (sg := sg) hk hpb (c := -1) (y := 0) (ten := 0) (by decide) (by decide) (by decide) (fun q1 q2 => absurd q1 (by decide))) rfl hT (fun v1 w1 hq => ?_)
      obtain ⟨rfl, pcv1, pb1, ps1, pwd1, sv1, sR1, sg1, PR1, hk1, hfr, hrow, hpb1, rfl⟩ := hq
      refine ⟨_, _, _, _, _, _, _, _, _, _, _, _, _, rfl, rfl, ?_⟩
      refine im_g 3 (y := (35, _, _, _)) rfl trivial ?_
      refine im_b rfl rfl ⟨(by omega), (by omega), trivial⟩ (fun j4 => ?_) (fun j4 => ?_)
      · refine im_g 5 (y := (51, _, _, _)) rfl ⟨(by omega), trivial⟩ ?_
        refine im_r rfl rfl trivial rfl ?_
        refine ⟨congrArg (fun z => some (Sum.inl z)) ?_, pv, pcv1, pb1, ps1, pwd1, sv1, sR1, sg1, PR1, hk1, hpb1, rfl⟩
        rw [if_neg (by omega), if_pos hpp]
        exact (hrow _ hpp.1 hpp.2).2
      · refine im_g 2 (y := (51, _, _, _)) rfl trivial ?_
        refine im_r rfl rfl trivial rfl ?_
        refine ⟨congrArg (fun z => some (Sum.inl z)) ?_, pv, pcv1, pb1, ps1, pwd1, sv1, sR1, sg1, PR1, hk1, hpb1, rfl⟩
        rw [if_pos (by omega)]
    · have hpn : ¬ (0 ≤ p ∧ p < v 0) := by
        intro cz
        rw [if_pos ⟨cz.1, cz.2, by omega⟩] at j3
        exact absurd j3 (by decide)
      clear j3
      refine im_g 1 (y := (17, _, _, _)) rfl trivial ?_
      refine im_r rfl rfl trivial rfl ?_
      refine ⟨congrArg (fun z => some (Sum.inl z)) ?_, pv, pcv, pb, ps, pwd, sv, sR, sg, PR, hk, hpb, rfl⟩
      rw [if_neg (by omega), if_neg hpn]
set_option maxHeartbeats 16000000 in
theorem cw_fewest (hd : 7 ≤ d) (hT : T.length < 1000) {lw : Option im_T} (h : LOK v R) (hday : R 7 0 ≤ 999) (hg : GV g T) (hl : LWR v g T lw) (hk : PKO pb ps pwd sv sR PR) (hpb : PRB PR) {wh : Int} (hw : im_ir wh) : im_ct ro T d 99 [mr 0, .inl wh] (CW (xv, (v, R, g), ik, y, (f, k, rw_), (cv, cb, cs, cwd), U, (pv, (pcv, pb, ps, pwd), (sv, sR, sg), PR), W, fr, I0, I1)) (fun r w => r = some (.inl (if 0 ≤ wh ∧ wh ≤ 1 then (if wh = 0 then (fe_ans lw v R).1 else (fe_ans lw v R).2) else -1)) ∧ ∃ pv1 pcv1 pb1 ps1 pwd1 sv1 sR1 sg1 PR1, PKO pb1 ps1 pwd1 sv1 sR1 PR1 ∧ PRB PR1 ∧ w = CW (xv, (v, R, g), ik, y, (f, k, rw_), (cv, cb, cs, cwd), U, (pv1, (pcv1, pb1, ps1, pwd1), (sv1, sR1, sg1), PR1), W, fr, I0, I1)) := by
  obtain ⟨d, rfl⟩ : ∃ e, d = e + 1 := ⟨d - 1, by omega⟩
  have hpar := lk_par h
  refine im_ct_of (own := 8) (ret := (some .int)) (code := ab_k_X8_fewest) (nL := 2) (L0 := [some (mr 0), some (.inl wh)]) (n := 95) rfl rfl rfl rfl rfl rfl rfl rfl rfl ?_
  refine im_g 1 (y := (1, _, _, _)) rfl trivial ?_
  refine im_b rfl rfl ⟨(by omega), trivial⟩ (fun j1 => ?_) (fun j1 => ?_)
  · refine im_g 1 (y := (10, _, _, _)) rfl trivial ?_
    refine im_r rfl rfl trivial rfl ?_
    refine ⟨congrArg (fun z => some (Sum.inl z)) ?_, pv, pcv, pb, ps, pwd, sv, sR, sg, PR, hk, hpb, rfl⟩
    rw [if_neg (by omega)]
  · refine im_g 2 (y := (6, _, _, _)) rfl trivial ?_
    refine im_b rfl rfl ⟨(by omega), (by omega), trivial⟩ (fun j2 => ?_) (fun j2 => ?_)
    · refine im_g 4 (y := (19, _, _, _)) rfl trivial ?_
      refine im_cPL rfl rfl (c_fewest (lw := lw) (by omega) hT h (by omega) hg hl (pv := pv) (cv := pcv) (sg := sg) hk hpb) rfl hT (fun v1 w1 hq => ?_)
      obtain ⟨rfl, pv1, pcv1, pb1, ps1, pwd1, sv1, sR1, sg1, PR1, hk1, hpb1, ⟨hz1, hz2⟩, rfl⟩ := hq
      refine ⟨_, _, _, _, _, _, _, _, _, _, _, _, _, rfl, rfl, ?_⟩
      refine im_g 1 (y := (23, _, _, _)) rfl trivial ?_
      refine im_b rfl rfl ⟨(by omega), trivial⟩ (fun j3 => ?_) (fun j3 => ?_)
      · refine im_g 3 (y := (43, _, _, _)) rfl trivial ?_
        refine im_r rfl rfl trivial rfl ?_
        refine ⟨congrArg (fun z => some (Sum.inl z)) ?_, pv1, pcv1, pb1, ps1, pwd1, sv1, sR1, sg1, PR1, hk1, hpb1, rfl⟩
        rw [if_pos (by omega)]
        rw [if_neg (by omega)]
        exact hz2
      · refine im_g 4 (y := (43, _, _, _)) rfl trivial ?_
        refine im_r rfl rfl trivial rfl ?_
        refine ⟨congrArg (fun z => some (Sum.inl z)) ?_, pv1, pcv1, pb1, ps1, pwd1, sv1, sR1, sg1, PR1, hk1, hpb1, rfl⟩
        rw [if_pos (by omega)]
        rw [if_pos (by omega)]
        exact hz1
    · refine im_g 1 (y := (10, _, _, _)) rfl trivial ?_
      refine im_r rfl rfl trivial rfl ?_
      refine ⟨congrArg (fun z => some (Sum.inl z)) ?_, pv, pcv, pb, ps, pwd, sv, sR, sg, PR, hk, hpb, rfl⟩
      rw [if_neg (by omega)]
set_option maxHeartbeats 16000000 in
theorem cw_best (hd : 7 ≤ d) (hT : T.length < 1000) {lw : Option im_T} (h : LOK v R) (hday : R 7 0 ≤ 999) (hg : GV g T) (hl : LWR v g T lw) (hk : PKO pb ps pwd sv sR PR) (hpb : PRB PR) {wh : Int} (hw : im_ir wh) : im_ct ro T d 102 [mr 0, .inl wh] (CW (xv, (v, R, g), ik, y, (f, k, rw_), (cv, cb, cs, cwd), U, (pv, (pcv, pb, ps, pwd), (sv, sR, sg), PR), W, fr, I0, I1)) (fun r w => r = some (.inl (if 0 ≤ wh ∧ wh ≤ 1 then (if wh = 0 then (fb lw v R 97).1 else (fb lw v R 97).2) else -1)) ∧ ∃ pv1 pcv1 pb1 ps1 pwd1 sv1 sR1 sg1 PR1, PKO pb1 ps1 pwd1 sv1 sR1 PR1 ∧ PRB PR1 ∧ w = CW (xv, (v, R, g), ik, y, (f, k, rw_), (cv, cb, cs, cwd), U, (pv1, (pcv1, pb1, ps1, pwd1), (sv1, sR1, sg1), PR1), W, fr, I0, I1)) := by
  obtain ⟨d, rfl⟩ : ∃ e, d = e + 1 := ⟨d - 1, by omega⟩
  have hpar := lk_par h
  refine im_ct_of (own := 8) (ret := (some .int)) (code := ab_k_X8_best) (nL := 2) (L0 := [some (mr 0), some (.inl wh)]) (n := 95) rfl rfl rfl rfl rfl rfl rfl rfl rfl ?_
  refine im_g 1 (y := (1, _, _, _)) rfl trivial ?_
  refine im_b rfl rfl ⟨(by omega), trivial⟩ (fun j1 => ?_) (fun j1 => ?_)
  · refine im_g 1 (y := (10, _, _, _)) rfl trivial ?_
    refine im_r rfl rfl trivial rfl ?_
    refine ⟨congrArg (fun z => some (Sum.inl z)) ?_, pv, pcv, pb, ps, pwd, sv, sR, sg, PR, hk, hpb, rfl⟩
    rw [if_neg (by omega)]
  · refine im_g 2 (y := (6, _, _, _)) rfl trivial ?_
    refine im_b rfl rfl ⟨(by omega), (by omega), trivial⟩ (fun j2 => ?_) (fun j2 => ?_)
    · refine im_g 4 (y := (19, _, _, _)) rfl trivial ?_
      refine im_cPL rfl rfl (c_best (lw := lw) (by omega) hT h (by omega) hg hl (pv := pv) (cv := pcv) (sg := sg) hk hpb) rfl hT (fun v1 w1 hq => ?_)
      obtain ⟨rfl, pv1, pcv1, pb1, ps1, pwd1, sv1, sR1, sg1, PR1, hk1, hpb1, ⟨hz1, hz2⟩, rfl⟩ := hq
      refine ⟨_, _, _, _, _, _, _, _, _, _, _, _, _, rfl, rfl, ?_⟩
      refine im_g 1 (y := (23, _, _, _)) rfl trivial ?_
      refine im_b rfl rfl ⟨(by omega), trivial⟩ (fun j3 => ?_) (fun j3 => ?_)
      · refine im_g 3 (y := (43, _, _, _)) rfl trivial ?_
        refine im_r rfl rfl trivial rfl ?_
        refine ⟨congrArg (fun z => some (Sum.inl z)) ?_, pv1, pcv1, pb1, ps1, pwd1, sv1, sR1, sg1, PR1, hk1, hpb1, rfl⟩
        rw [if_pos (by omega)]
        rw [if_neg (by omega)]
        exact hz2
      · refine im_g 4 (y := (43, _, _, _)) rfl trivial ?_
        refine im_r rfl rfl trivial rfl ?_
        refine ⟨congrArg (fun z => some (Sum.inl z)) ?_, pv1, pcv1, pb1, ps1, pwd1, sv1, sR1, sg1, PR1, hk1, hpb1, rfl⟩
        rw [if_pos (by omega)]
        rw [if_pos (by omega)]
        exact hz1
    · refine im_g 1 (y := (10, _, _, _)) rfl trivial ?_
      refine im_r rfl rfl trivial rfl ?_
      refine ⟨congrArg (fun z => some (Sum.inl z)) ?_, pv, pcv, pb, ps, pwd, sv, sR, sg, PR, hk, hpb, rfl⟩
      rw [if_neg (by omega)]
end Cg
