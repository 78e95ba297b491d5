/-! the class's calls: what is asked on paper (1b) -/
section Cg
variable {ro : ab_R} {T : List im_T} {d : Nat} {xv : Nat → Int} {v : Nat → Int} {R : Nat → Int → Int} {g : Int → Option Nat} {ik : Int → Int} {y : cw_L} {f k : Int} {rw_ : Int → Int} {cv : Nat → Int} {cb : Int} {cs cwd : Int → Int} {U : cw_U} {W : cw_R} {fr : Int → Int} {I0 I1 : cw_L} {pv pcv : Nat → Int} {pb : Int} {ps pwd : Int → Int} {sv : Nat → Int} {sR : Nat → Int → Int} {sg : Int → Option Nat} {PR : Nat → Int → Int}
set_option maxHeartbeats 16000000 in
theorem cw_lent (hd : 3 ≤ d) (hT : T.length < 1000) {lw : Option im_T} (h : LOK v R) (hday : R 7 0 ≤ 999) (hg : GV g T) (hl : LWR v g T lw) (hk : PKO pb ps pwd sv sR PR) (hpb : PRB PR) {wh : Int} (hw : im_ir wh) : im_ct ro T d 100 [mr 0, .inl wh] (CW (xv, (v, R, g), ik, y, (f, k, rw_), (cv, cb, cs, cwd), U, (pv, (pcv, pb, ps, pwd), (sv, sR, sg), PR), W, fr, I0, I1)) (fun r w => r = some (.inl (if 0 ≤ wh ∧ wh ≤ v 0 then (if (lt_ok (R 7 1) v R (v 0).toNat = true) then (if wh = 0 then (lt_r (R 7 1) v R (v 0).toNat).2.2 else (lt_r (R 7 1) v R (v 0).toNat).2.1 (wh - 1)) else -1000) else -1000)) ∧ ∃ pv1 pcv1 pb1 ps1 pwd1 sv1 sR1 sg1 PR1, PKO pb1 ps1 pwd1 sv1 sR1 PR1 ∧ PRB PR1 ∧ w = CW (xv, (v, R, g), ik, y, (f, k, rw_), (cv, cb, cs, cwd), U, (pv1, (pcv1, pb1, ps1, pwd1), (sv1, sR1, sg1), PR1), W, fr, I0, I1)) := by
  obtain ⟨d, rfl⟩ : ∃ e, d = e + 1 := ⟨d - 1, by omega⟩
  have hpar := lk_par h
  refine im_ct_of (own := 8) (ret := (some .int)) (code := ab_k_X8_lent) (nL := 2) (L0 := [some (mr 0), some (.inl wh)]) (n := 95) rfl rfl rfl rfl rfl rfl rfl rfl rfl ?_
  refine im_g 1 (y := (1, _, _, _)) rfl trivial ?_
  refine im_b rfl rfl ⟨(by omega), trivial⟩ (fun j1 => ?_) (fun j1 => ?_)
  · refine im_g 1 (y := (32, _, _, _)) rfl trivial ?_
    refine im_r rfl rfl trivial rfl ?_
    refine ⟨congrArg (fun z => some (Sum.inl z)) ?_, pv, pcv, pb, ps, pwd, sv, sR, sg, PR, hk, hpb, rfl⟩
    rw [if_neg (by omega)]
  · refine im_g 4 (y := (12, _, _, _)) rfl trivial ?_
    refine im_b rfl rfl ⟨(by omega), (by omega), trivial⟩ (fun j2 => ?_) (fun j2 => ?_)
    · refine im_g 1 (y := (32, _, _, _)) rfl trivial ?_
      refine im_r rfl rfl trivial rfl ?_
      refine ⟨congrArg (fun z => some (Sum.inl z)) ?_, pv, pcv, pb, ps, pwd, sv, sR, sg, PR, hk, hpb, rfl⟩
      rw [if_neg (by omega)]
    · refine im_g 4 (y := (23, _, _, _)) rfl trivial ?_
      refine im_cPL rfl rfl (c_lent (by omega) hT h (pv := pv) (cv := pcv) (sg := sg) (b := pb) (s := ps) (wd := pwd) (sv := sv) (sR := sR) hpb) rfl hT (fun v1 w1 hq => ?_)
      obtain ⟨pv1, PR1, hpb1, hpv, hPR, rfl, hz, rfl⟩ := hq
      refine ⟨_, _, _, _, _, _, _, _, _, _, _, _, _, rfl, rfl, ?_⟩
      refine im_b rfl rfl ⟨(by split <;> decide), trivial⟩ (fun j3 => ?_) (fun j3 => ?_)
      · have hyes : (lt_ok (R 7 1) v R (v 0).toNat = true) := by
          by_cases cz : (lt_ok (R 7 1) v R (v 0).toNat = true)
          · exact cz
          · rw [if_neg cz] at j3; exact absurd rfl j3
        clear j3
        refine im_g 1 (y := (34, _, _, _)) rfl trivial ?_
        refine im_b rfl rfl ⟨(by omega), trivial⟩ (fun j4 => ?_) (fun j4 => ?_)
        · refine im_g 7 (y := (58, _, _, _)) rfl ⟨(by omega), trivial⟩ ?_
          refine im_r rfl rfl trivial rfl ?_
          refine ⟨congrArg (fun z => some (Sum.inl z)) ?_, pv1, pcv, pb, ps, pwd, sv, sR, sg, PR1, PKO_pr hk hpb1 (hPR 4 (by decide) (by decide)), hpb1, rfl⟩
          rw [if_pos (by omega), if_pos hyes, if_neg (by omega)]
          exact (hz hyes).2 _ (by omega) (by omega)
        · refine im_g 4 (y := (58, _, _, _)) rfl trivial ?_
          refine im_r rfl rfl trivial rfl ?_
          refine ⟨congrArg (fun z => some (Sum.inl z)) ?_, pv1, pcv, pb, ps, pwd, sv, sR, sg, PR1, PKO_pr hk hpb1 (hPR 4 (by decide) (by decide)), hpb1, rfl⟩
          rw [if_pos (by omega), if_pos hyes, if_pos (by omega)]
          exact (hz hyes).1
      · have hno : ¬ (lt_ok (R 7 1) v R (v 0).toNat = true) := by
          intro cz
          rw [if_pos cz] at j3
          exact j3 (by decide)
        clear j3
        refine im_g 1 (y := (32, _, _, _)) rfl trivial ?_
        refine im_r rfl rfl trivial rfl ?_
        refine ⟨congrArg (fun z => some (Sum.inl z)) ?_, pv1, pcv, pb, ps, pwd, sv, sR, sg, PR1, PKO_pr hk hpb1 (hPR 4 (by decide) (by decide)), hpb1, rfl⟩
        rw [if_pos (by omega), if_neg hno]
set_option maxHeartbeats 16000000 in
theorem cw_odds (hd : 7 ≤ d) (hT : T.length < 1000) {lw : Option im_T} (h : LOK v R) (hday : R 7 0 ≤ 999) (hg : GV g T) (hl : LWR v g T lw) (hk : PKO pb ps pwd sv sR PR) (hpb : PRB PR) {p n ov : Int} (hp : im_ir p) (hn : im_ir n) (hov : im_ir ov) : im_ct ro T d 101 [mr 0, .inl p, .inl n, .inl ov] (CW (xv, (v, R, g), ik, y, (f, k, rw_), (cv, cb, cs, cwd), U, (pv, (pcv, pb, ps, pwd), (sv, sR, sg), PR), W, fr, I0, I1)) (fun r w => ∃ z, r = some (.inr (.inl z)) ∧ ∃ pv1 pcv1 pb1 ps1 pwd1 sv1 sR1 sg1 PR1, PKO pb1 ps1 pwd1 sv1 sR1 PR1 ∧ PRB PR1 ∧ w = CW (xv, (v, R, g), ik, y, (f, k, rw_), (cv, cb, cs, cwd), U, (pv1, (pcv1, pb1, ps1, pwd1), (sv1, sR1, sg1), PR1), W, fr, I0, I1)) := by
  obtain ⟨d, rfl⟩ : ∃ e, d = e + 1 := ⟨d - 1, by omega⟩
  have hpar := lk_par h
  refine im_ct_of (own := 8) (ret := (some .long)) (code := ab_k_X8_odds) (nL := 4) (L0 := [some (mr 0), some (.inl p), some (.inl n), some (.inl ov)]) (n := 95) rfl rfl rfl rfl rfl rfl rfl rfl rfl ?_
  refine im_g 3 (y := (5, _, _, _)) rfl trivial ?_
  refine im_cL rfl rfl (c_has (v := v) (R := R) (g := g) (p := p) (by omega) hT hp (lk_par h)) rfl hT (fun v1 w1 hq => ?_)
  obtain ⟨rfl, rfl⟩ := hq
  refine ⟨_, _, _, _, rfl, rfl, ?_⟩
  refine im_b rfl rfl ⟨(by split <;> decide), trivial⟩ (fun j1 => ?_) (fun j1 => ?_)
  · have hpn : ¬ (0 ≤ p ∧ p < v 0) := by
      intro cz
      rw [if_pos ⟨cz.1, cz.2, by omega⟩] at j1
      exact absurd j1 (by decide)
    clear j1
    refine im_g 1 (y := (34, _, _, _)) rfl trivial ?_
    refine im_r rfl rfl trivial rfl ?_
    refine ⟨_, rfl, pv, pcv, pb, ps, pwd, sv, sR, sg, PR, hk, hpb, rfl⟩
  · have hpp : 0 ≤ p ∧ p < v 0 := by
      by_cases cz : 0 ≤ p ∧ p < v 0 ∧ p < 10
      · exact ⟨cz.1, cz.2.1⟩
      · rw [if_neg cz] at j1; exact absurd rfl j1
    clear j1
    refine im_g 1 (y := (12, _, _, _)) rfl trivial ?_
    refine im_b rfl rfl ⟨(by omega), trivial⟩ (fun j2 => ?_) (fun j2 => ?_)
    · refine im_g 1 (y := (34, _, _, _)) rfl trivial ?_
      refine im_r rfl rfl trivial rfl ?_
      refine ⟨_, rfl, pv, pcv, pb, ps, pwd, sv, sR, sg, PR, hk, hpb, rfl⟩
    · refine im_g 2 (y := (18, _, _, _)) rfl trivial ?_
      refine im_b rfl rfl ⟨(by omega), (by omega), trivial⟩ (fun j3 => ?_) (fun j3 => ?_)
      · refine im_g 1 (y := (34, _, _, _)) rfl trivial ?_
        refine im_r rfl rfl trivial rfl ?_
        refine ⟨_, rfl, pv, pcv, pb, ps, pwd, sv, sR, sg, PR, hk, hpb, rfl⟩
      · refine im_g 1 (y := (22, _, _, _)) rfl trivial ?_
        refine im_b rfl rfl ⟨(by omega), trivial⟩ (fun j4 => ?_) (fun j4 => ?_)
        · refine im_g 1 (y := (34, _, _, _)) rfl trivial ?_
          refine im_r rfl rfl trivial rfl ?_
          refine ⟨_, rfl, pv, pcv, pb, ps, pwd, sv, sR, sg, PR, hk, hpb, rfl⟩
        · refine im_g 2 (y := (28, _, _, _)) rfl trivial ?_
          refine im_b rfl rfl ⟨(by omega), (by omega), trivial⟩ (fun j5 => ?_) (fun j5 => ?_)
          · refine im_g 7 (y := (46, _, _, _)) rfl trivial ?_
            refine im_cPL rfl rfl (c_parts (lw := lw) (by omega) hT h (by omega) hg hl (pv := pv) (cv := pcv) (sg := sg) hk (p := p) (n := n) (ov := ov) hpp (by omega) (by omega)) rfl hT (fun v1 w1 hq => ?_)
            obtain ⟨z, PR1, pcv1, pb1, ps1, pwd1, rfl, hk1, hPR, rfl⟩ := hq
            refine ⟨_, _, _, _, _, _, _, _, _, _, _, _, _, rfl, rfl, ?_⟩
            refine im_r rfl rfl trivial rfl ?_
            exact ⟨_, rfl, pv, pcv1, pb1, ps1, pwd1, sv, sR, sg, PR1, hk1, fun r i hr => (by rw [hPR r hr]; exact hpb r i hr), rfl⟩
          · refine im_g 1 (y := (34, _, _, _)) rfl trivial ?_
            refine im_r rfl rfl trivial rfl ?_
            refine ⟨_, rfl, pv, pcv, pb, ps, pwd, sv, sR, sg, PR, hk, hpb, rfl⟩
end Cg
