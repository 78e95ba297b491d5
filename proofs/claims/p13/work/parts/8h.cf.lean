/-! the class's calls: of -/
def cw_ofa (lw : Option im_T) (v : Nat → Int) (R : Nat → Int → Int) (p what : Int) : Int := if ¬ (0 ≤ p ∧ p < v 0) then -1000 else if what = 0 then R 0 p else if what = 1 then R 2 p else if what = 2 then R 1 p else if what = 3 then R 3 p else if what = 4 then as_tens lw p 0 R else if what = 5 then as_over lw p 0 R else if what = 6 then as_over lw p 0 R - as_stay lw p 0 R else if what = 7 then as_steps lw p 0 R else if what = 8 then as_bar lw p 0 R else if what = 9 then st_sum lw v R 10 p else -1000
section Cf
variable {ro : ab_R} {T : List im_T} {d : Nat} {xv : Nat → Int} {v : Nat → Int} {R : Nat → Int → Int} {g : Int → Option Nat} {ik : Int → Int} {y : cw_L} {f k : Int} {rw_ : Int → Int} {cv : Nat → Int} {cb : Int} {cs cwd : Int → Int} {U : cw_U} {W : cw_R} {fr : Int → Int} {I0 I1 : cw_L} {pv pcv : Nat → Int} {pb : Int} {ps pwd : Int → Int} {sv : Nat → Int} {sR : Nat → Int → Int} {sg : Int → Option Nat} {PR : Nat → Int → Int}
set_option maxHeartbeats 16000000 in
theorem cw_of (hd : 6 ≤ d) (hT : T.length < 1000) {lw : Option im_T} (h : LOK v R) (hday : R 7 0 ≤ 100000) (hg : GV g T) (hl : LWR v g T lw) (hcb : cb = 0 ∨ cb = 1) (hcs : SOK cs) (hcwd : WOK cwd) (hpb : pb = 0 ∨ pb = 1) (hps : SOK ps) (hpw : WOK pwd) {p what : Int} (hp : im_ir p) (hw : im_ir what) : im_ct ro T d 81 [mr 0, .inl p, .inl what] (CW (xv, (v, R, g), ik, y, (f, k, rw_), (cv, cb, cs, cwd), U, (pv, (pcv, pb, ps, pwd), (sv, sR, sg), PR), W, fr, I0, I1)) (fun r w => r = some (.inl (cw_ofa lw v R p what)) ∧ ∃ cv1 cb1 cs1 cwd1 pcv1 pb1 ps1 pwd1, ((cb1 = 0 ∨ cb1 = 1) ∧ SOK cs1 ∧ WOK cwd1) ∧ ((pb1 = 0 ∨ pb1 = 1) ∧ SOK ps1 ∧ WOK pwd1) ∧ w = CW (xv, (v, R, g), ik, y, (f, k, rw_), (cv1, cb1, cs1, cwd1), U, (pv, (pcv1, pb1, ps1, pwd1), (sv, sR, sg), PR), W, fr, I0, I1)) := by
  obtain ⟨d, rfl⟩ : ∃ e, d = e + 1 := ⟨d - 1, by omega⟩
  have hpar := lk_par h
  refine im_ct_of (own := 8) (ret := (some .int)) (code := ab_k_X8_of) (nL := 3) (L0 := [some (mr 0), some (.inl p), some (.inl what)]) (n := 95) rfl rfl rfl rfl rfl rfl rfl rfl rfl ?_
  refine im_g 3 (y := (5, _, _, _)) rfl trivial ?_
  refine im_cL rfl rfl (c_has (v := v) (R := R) (g := g) (p := p) (by omega) hT hp (lk_par h)) rfl hT (fun v1 w1 hq => ?_)
  obtain ⟨rfl, rfl⟩ := hq
  refine ⟨_, _, _, _, rfl, rfl, ?_⟩
  refine im_b rfl rfl ⟨(by split <;> decide), trivial⟩ (fun j1 => ?_) (fun j1 => ?_)
  · have hpn : ¬ (0 ≤ p ∧ p < v 0) := by
      intro cz
      rw [if_pos ⟨cz.1, cz.2, by omega⟩] at j1
      exact absurd j1 (by decide)
    clear j1
    refine im_g 1 (y := (24, _, _, _)) rfl trivial ?_
    refine im_r rfl rfl trivial rfl ?_
    refine ⟨congrArg (fun z => some (Sum.inl z)) ?_, cv, cb, cs, cwd, pcv, pb, ps, pwd, ⟨hcb, hcs, hcwd⟩, ⟨hpb, hps, hpw⟩, rfl⟩
    unfold cw_ofa
    rw [if_pos hpn]
  · have hpp : 0 ≤ p ∧ p < v 0 := by
      by_cases cz : 0 ≤ p ∧ p < v 0 ∧ p < 10
      · exact ⟨cz.1, cz.2.1⟩
      · rw [if_neg cz] at j1; exact absurd rfl j1
    clear j1
    refine im_g 1 (y := (12, _, _, _)) rfl trivial ?_
    refine im_b rfl rfl ⟨(by first | decide | omega), trivial⟩ (fun j2 => ?_) (fun j2 => ?_)
    · refine im_g 1 (y := (24, _, _, _)) rfl trivial ?_
      refine im_r rfl rfl trivial rfl ?_
      refine ⟨congrArg (fun z => some (Sum.inl z)) ?_, cv, cb, cs, cwd, pcv, pb, ps, pwd, ⟨hcb, hcs, hcwd⟩, ⟨hpb, hps, hpw⟩, rfl⟩
      unfold cw_ofa
      rw [if_neg (fun z => z hpp), if_neg (by omega), if_neg (by omega), if_neg (by omega), if_neg (by omega), if_neg (by omega), if_neg (by omega), if_neg (by omega), if_neg (by omega), if_neg (by omega), if_neg (by omega)]
    · refine im_g 2 (y := (18, _, _, _)) rfl trivial ?_
      refine im_b rfl rfl ⟨(by first | decide | omega), (by first | decide | omega), trivial⟩ (fun j3 => ?_) (fun j3 => ?_)
      · refine im_g 6 (y := (35, _, _, _)) rfl trivial ?_
        refine im_cCL rfl rfl (c_ask (v := cv) (by omega) hT hcb hcs hcwd (lv := v) (R := R) (g := g) h hday hl (p := p) (ten := 0) hpp (by decide)) rfl hT (fun v1 w1 hq => ?_)
        obtain ⟨rfl, b1, s1, wd1, hb1, hs1, hwd1, rfl⟩ := hq
        refine ⟨_, _, _, _, _, _, _, _, rfl, rfl, ?_⟩
        refine im_g 1 (y := (39, _, _, _)) rfl trivial ?_
        have hk : what = 0 ∨ what = 1 ∨ what = 2 ∨ what = 3 ∨ what = 4 ∨ what = 5 ∨ what = 6 ∨ what = 7 ∨ what = 8 ∨ what = 9 := by omega
        rcases hk with rfl | rfl | rfl | rfl | rfl | rfl | rfl | rfl | rfl | rfl
        · refine im_sw (tgt := 88) rfl (by decide) (by decide) (Or.inr ⟨_, rfl, by decide⟩) (by decide) ?_
          refine im_g 5 (y := (97, _, _, _)) rfl ⟨(by omega), trivial⟩ ?_
          refine im_r rfl rfl trivial rfl ?_
          refine ⟨congrArg (fun z => some (Sum.inl z)) ?_, (as_v lw p 0 R), b1, s1, wd1, pcv, pb, ps, pwd, ⟨hb1, hs1, hwd1⟩, ⟨hpb, hps, hpw⟩, rfl⟩
          unfold cw_ofa
          rw [if_neg (fun z => z hpp)]
          rfl
        · refine im_sw (tgt := 98) rfl (by decide) (by decide) (Or.inr ⟨_, rfl, by decide⟩) (by decide) ?_
          refine im_g 5 (y := (107, _, _, _)) rfl ⟨(by omega), trivial⟩ ?_
          refine im_r rfl rfl trivial rfl ?_
          refine ⟨congrArg (fun z => some (Sum.inl z)) ?_, (as_v lw p 0 R), b1, s1, wd1, pcv, pb, ps, pwd, ⟨hb1, hs1, hwd1⟩, ⟨hpb, hps, hpw⟩, rfl⟩
          unfold cw_ofa
          rw [if_neg (fun z => z hpp)]
          rfl
        · refine im_sw (tgt := 108) rfl (by decide) (by decide) (Or.inr ⟨_, rfl, by decide⟩) (by decide) ?_
          refine im_g 5 (y := (117, _, _, _)) rfl ⟨(by omega), trivial⟩ ?_
          refine im_r rfl rfl trivial rfl ?_
          refine ⟨congrArg (fun z => some (Sum.inl z)) ?_, (as_v lw p 0 R), b1, s1, wd1, pcv, pb, ps, pwd, ⟨hb1, hs1, hwd1⟩, ⟨hpb, hps, hpw⟩, rfl⟩
          unfold cw_ofa
          rw [if_neg (fun z => z hpp)]
          rfl
        · refine im_sw (tgt := 118) rfl (by decide) (by decide) (Or.inr ⟨_, rfl, by decide⟩) (by decide) ?_
          refine im_g 5 (y := (127, _, _, _)) rfl ⟨(by omega), trivial⟩ ?_
          refine im_r rfl rfl trivial rfl ?_
          refine ⟨congrArg (fun z => some (Sum.inl z)) ?_, (as_v lw p 0 R), b1, s1, wd1, pcv, pb, ps, pwd, ⟨hb1, hs1, hwd1⟩, ⟨hpb, hps, hpw⟩, rfl⟩
          unfold cw_ofa
          rw [if_neg (fun z => z hpp)]
          rfl
        · refine im_sw (tgt := 128) rfl (by decide) (by decide) (Or.inr ⟨_, rfl, by decide⟩) (by decide) ?_
          refine im_g 3 (y := (135, _, _, _)) rfl trivial ?_
          refine im_r rfl rfl trivial rfl ?_
          refine ⟨congrArg (fun z => some (Sum.inl z)) ?_, (as_v lw p 0 R), b1, s1, wd1, pcv, pb, ps, pwd, ⟨hb1, hs1, hwd1⟩, ⟨hpb, hps, hpw⟩, rfl⟩
          unfold cw_ofa
          rw [if_neg (fun z => z hpp)]
          rfl
        · refine im_sw (tgt := 136) rfl (by decide) (by decide) (Or.inr ⟨_, rfl, by decide⟩) (by decide) ?_
          refine im_g 3 (y := (143, _, _, _)) rfl trivial ?_
          refine im_r rfl rfl trivial rfl ?_
          refine ⟨congrArg (fun z => some (Sum.inl z)) ?_, (as_v lw p 0 R), b1, s1, wd1, pcv, pb, ps, pwd, ⟨hb1, hs1, hwd1⟩, ⟨hpb, hps, hpw⟩, rfl⟩
          unfold cw_ofa
          rw [if_neg (fun z => z hpp)]
          rfl
        · refine im_sw (tgt := 144) rfl (by decide) (by decide) (Or.inr ⟨_, rfl, by decide⟩) (by decide) ?_
          refine im_g 2 (y := (148, _, _, _)) rfl trivial ?_
          refine im_cC rfl rfl (c_walkers (v := (as_v lw p 0 R)) (b := b1) (s := s1) (wd := wd1) (by omega) hT) rfl hT (fun v1 w1 hq => ?_)
          obtain ⟨rfl, rfl⟩ := hq
          refine ⟨_, _, _, _, _, rfl, rfl, ?_⟩
          refine im_r rfl rfl trivial rfl ?_
          refine ⟨congrArg (fun z => some (Sum.inl z)) ?_, (as_v lw p 0 R), b1, s1, wd1, pcv, pb, ps, pwd, ⟨hb1, hs1, hwd1⟩, ⟨hpb, hps, hpw⟩, rfl⟩
          unfold cw_ofa
          rw [if_neg (fun z => z hpp)]
          rfl
        · refine im_sw (tgt := 152) rfl (by decide) (by decide) (Or.inr ⟨_, rfl, by decide⟩) (by decide) ?_
          refine im_g 3 (y := (159, _, _, _)) rfl trivial ?_
          refine im_r rfl rfl trivial rfl ?_
          refine ⟨congrArg (fun z => some (Sum.inl z)) ?_, (as_v lw p 0 R), b1, s1, wd1, pcv, pb, ps, pwd, ⟨hb1, hs1, hwd1⟩, ⟨hpb, hps, hpw⟩, rfl⟩
          unfold cw_ofa
          rw [if_neg (fun z => z hpp)]
          rfl
        · refine im_sw (tgt := 160) rfl (by decide) (by decide) (Or.inr ⟨_, rfl, by decide⟩) (by decide) ?_
          refine im_g 3 (y := (167, _, _, _)) rfl trivial ?_
          refine im_b rfl rfl ⟨(by first | omega | (have hz5 := as_bar_b lw p 0 R; show im_ir (as_bar lw p 0 R); constructor <;> omega)), trivial⟩ (fun j4 => ?_) (fun j4 => ?_)
          · refine im_g 1 (y := (175, _, _, _)) rfl trivial ?_
            refine im_r rfl rfl trivial rfl ?_
            refine ⟨congrArg (fun z => some (Sum.inl z)) ?_, (as_v lw p 0 R), b1, s1, wd1, pcv, pb, ps, pwd, ⟨hb1, hs1, hwd1⟩, ⟨hpb, hps, hpw⟩, rfl⟩
            unfold cw_ofa
            rw [if_neg (fun z => z hpp)]
            show _ = as_bar lw p 0 R
            have hz4 : (as_v lw p 0 R) 4 = as_bar lw p 0 R := rfl
            have hz5 := as_bar_b lw p 0 R
            omega
          · refine im_g 2 (y := (175, _, _, _)) rfl trivial ?_
            refine im_r rfl rfl trivial rfl ?_
            refine ⟨congrArg (fun z => some (Sum.inl z)) ?_, (as_v lw p 0 R), b1, s1, wd1, pcv, pb, ps, pwd, ⟨hb1, hs1, hwd1⟩, ⟨hpb, hps, hpw⟩, rfl⟩
            unfold cw_ofa
            rw [if_neg (fun z => z hpp)]
            show _ = as_bar lw p 0 R
            have hz4 : (as_v lw p 0 R) 4 = as_bar lw p 0 R := rfl
            have hz5 := as_bar_b lw p 0 R
            omega
        · refine im_sw (tgt := 176) rfl (by decide) (by decide) (Or.inl (by decide)) (by decide) ?_
          refine im_g 5 (y := (185, _, _, _)) rfl trivial ?_
          refine im_cPL rfl rfl (c_toSea (by omega) hT h hday hg hl (pv := pv) (cv := pcv) (sv := sv) (sR := sR) (sg := sg) (PR := PR) hpb hps hpw (p0 := p) (by omega)) rfl hT (fun v1 w1 hq => ?_)
          obtain ⟨rfl, pcv1, pb1, ps1, pwd1, hpb1, hps1, hpw1, rfl⟩ := hq
          refine ⟨_, _, _, _, _, _, _, _, _, _, _, _, _, rfl, rfl, ?_⟩
          refine im_r rfl rfl trivial rfl ?_
          refine ⟨congrArg (fun z => some (Sum.inl z)) ?_, (as_v lw p 0 R), b1, s1, wd1, pcv1, pb1, ps1, pwd1, ⟨hb1, hs1, hwd1⟩, ⟨hpb1, hps1, hpw1⟩, rfl⟩
          unfold cw_ofa
          rw [if_neg (fun z => z hpp)]
          rfl
      · refine im_g 1 (y := (24, _, _, _)) rfl trivial ?_
        refine im_r rfl rfl trivial rfl ?_
        refine ⟨congrArg (fun z => some (Sum.inl z)) ?_, cv, cb, cs, cwd, pcv, pb, ps, pwd, ⟨hcb, hcs, hcwd⟩, ⟨hpb, hps, hpw⟩, rfl⟩
        unfold cw_ofa
        rw [if_neg (fun z => z hpp), if_neg (by omega), if_neg (by omega), if_neg (by omega), if_neg (by omega), if_neg (by omega), if_neg (by omega), if_neg (by omega), if_neg (by omega), if_neg (by omega), if_neg (by omega)]
end Cf
