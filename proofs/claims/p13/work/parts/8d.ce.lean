/-! the class's calls: count -/
def cw_cnt (by_ kept : Int) (fr : Int → Int) (v : Nat → Int) (R : Nat → Int → Int) (what : Int) : Int := if what = 0 then v 0 else if what = 1 then v 1 else if what = 2 then pl_sum (R 5) (v 1).toNat else if what = 3 then v 2 else if what = 4 then v 3 else if what = 5 then v 4 else if what = 6 then kept else if what = 7 then by_ else if what = 8 then fr 0 else if what = 9 then fr 1 else if what = 10 then fr 2 else if what = 11 then fr 3 else if what = 12 then fr 4 else if what = 13 then v 5 else if what = 14 then R 7 0 else if what = 15 then R 7 1 else if what = 16 then R 7 2 else if what = 17 then R 7 3 else -1
section Ce
variable {ro : ab_R} {T : List im_T} {d : Nat} {xv : Nat → Int} {v : Nat → Int} {R : Nat → Int → Int} {g : Int → Option Nat} {ik : Int → Int} {y : cw_L} {f k : Int} {rw_ : Int → Int} {cv : Nat → Int} {cb : Int} {cs cwd : Int → Int} {U : cw_U} {P : cw_P} {W : cw_R} {fr : Int → Int} {I0 I1 : cw_L}
set_option maxHeartbeats 8000000 in
theorem cw_count (hd : 2 ≤ d) (hT : T.length < 1000) (h : LOK v R) {what : Int} (hw : im_ir what) : im_ct ro T d 113 [mr 0, .inl what] (CW (xv, (v, R, g), ik, y, (f, k, rw_), (cv, cb, cs, cwd), U, P, W, fr, I0, I1)) (fun r w => r = some (.inl (cw_cnt (xv 0) k fr v R what)) ∧ w = CW (xv, (v, R, g), ik, y, (f, k, rw_), (cv, cb, cs, cwd), U, P, W, fr, I0, I1)) := by
  obtain ⟨d, rfl⟩ : ∃ e, d = e + 1 := ⟨d - 1, by omega⟩
  have hk : what = 0 ∨ what = 1 ∨ what = 2 ∨ what = 3 ∨ what = 4 ∨ what = 5 ∨ what = 6 ∨ what = 7 ∨ what = 8 ∨ what = 9 ∨ what = 10 ∨ what = 11 ∨ what = 12 ∨ what = 13 ∨ what = 14 ∨ what = 15 ∨ what = 16 ∨ what = 17 ∨ (what < 0 ∨ 17 < what) := by omega
  rcases hk with rfl | rfl | rfl | rfl | rfl | rfl | rfl | rfl | rfl | rfl | rfl | rfl | rfl | rfl | rfl | rfl | rfl | rfl | hk
  · refine im_ct_of (own := 8) (ret := (some .int)) (code := ab_k_X8_count) (nL := 2) (L0 := [some (mr 0), some (.inl 0)]) (n := 95) rfl rfl rfl rfl rfl rfl rfl rfl rfl ?_
    refine im_g 1 (y := (1, _, _, _)) rfl trivial ?_
    refine im_sw (tgt := 88) rfl (by decide) (by decide) (Or.inr ⟨_, rfl, by decide⟩) (by decide) ?_
    refine im_g 3 (y := (95, _, _, _)) rfl trivial ?_
    refine im_r rfl rfl trivial rfl ?_
    exact ⟨rfl, rfl⟩
  · refine im_ct_of (own := 8) (ret := (some .int)) (code := ab_k_X8_count) (nL := 2) (L0 := [some (mr 0), some (.inl 1)]) (n := 95) rfl rfl rfl rfl rfl rfl rfl rfl rfl ?_
    refine im_g 1 (y := (1, _, _, _)) rfl trivial ?_
    refine im_sw (tgt := 96) rfl (by decide) (by decide) (Or.inr ⟨_, rfl, by decide⟩) (by decide) ?_
    refine im_g 3 (y := (103, _, _, _)) rfl trivial ?_
    refine im_r rfl rfl trivial rfl ?_
    exact ⟨rfl, rfl⟩
  · refine im_ct_of (own := 8) (ret := (some .int)) (code := ab_k_X8_count) (nL := 2) (L0 := [some (mr 0), some (.inl 2)]) (n := 95) rfl rfl rfl rfl rfl rfl rfl rfl rfl ?_
    refine im_g 1 (y := (1, _, _, _)) rfl trivial ?_
    refine im_sw (tgt := 104) rfl (by decide) (by decide) (Or.inr ⟨_, rfl, by decide⟩) (by decide) ?_
    refine im_g 2 (y := (108, _, _, _)) rfl trivial ?_
    refine im_cL rfl rfl (c_walking (v := v) (R := R) (g := g) (by omega) hT h) rfl hT (fun v1 w1 hq => ?_)
    obtain ⟨rfl, rfl⟩ := hq
    refine ⟨_, _, _, _, rfl, rfl, ?_⟩
    refine im_r rfl rfl trivial rfl ?_
    exact ⟨rfl, rfl⟩
  · refine im_ct_of (own := 8) (ret := (some .int)) (code := ab_k_X8_count) (nL := 2) (L0 := [some (mr 0), some (.inl 3)]) (n := 95) rfl rfl rfl rfl rfl rfl rfl rfl rfl ?_
    refine im_g 1 (y := (1, _, _, _)) rfl trivial ?_
    refine im_sw (tgt := 112) rfl (by decide) (by decide) (Or.inr ⟨_, rfl, by decide⟩) (by decide) ?_
    refine im_g 3 (y := (119, _, _, _)) rfl trivial ?_
    refine im_r rfl rfl trivial rfl ?_
    exact ⟨rfl, rfl⟩
  · refine im_ct_of (own := 8) (ret := (some .int)) (code := ab_k_X8_count) (nL := 2) (L0 := [some (mr 0), some (.inl 4)]) (n := 95) rfl rfl rfl rfl rfl rfl rfl rfl rfl ?_
    refine im_g 1 (y := (1, _, _, _)) rfl trivial ?_
    refine im_sw (tgt := 120) rfl (by decide) (by decide) (Or.inr ⟨_, rfl, by decide⟩) (by decide) ?_
    refine im_g 3 (y := (127, _, _, _)) rfl trivial ?_
    refine im_r rfl rfl trivial rfl ?_
    exact ⟨rfl, rfl⟩
  · refine im_ct_of (own := 8) (ret := (some .int)) (code := ab_k_X8_count) (nL := 2) (L0 := [some (mr 0), some (.inl 5)]) (n := 95) rfl rfl rfl rfl rfl rfl rfl rfl rfl ?_
    refine im_g 1 (y := (1, _, _, _)) rfl trivial ?_
    refine im_sw (tgt := 128) rfl (by decide) (by decide) (Or.inr ⟨_, rfl, by decide⟩) (by decide) ?_
    refine im_g 3 (y := (135, _, _, _)) rfl trivial ?_
    refine im_r rfl rfl trivial rfl ?_
    exact ⟨rfl, rfl⟩
  · refine im_ct_of (own := 8) (ret := (some .int)) (code := ab_k_X8_count) (nL := 2) (L0 := [some (mr 0), some (.inl 6)]) (n := 95) rfl rfl rfl rfl rfl rfl rfl rfl rfl ?_
    refine im_g 1 (y := (1, _, _, _)) rfl trivial ?_
    refine im_sw (tgt := 136) rfl (by decide) (by decide) (Or.inr ⟨_, rfl, by decide⟩) (by decide) ?_
    refine im_g 3 (y := (143, _, _, _)) rfl trivial ?_
    refine im_r rfl rfl trivial rfl ?_
    exact ⟨rfl, rfl⟩
  · refine im_ct_of (own := 8) (ret := (some .int)) (code := ab_k_X8_count) (nL := 2) (L0 := [some (mr 0), some (.inl 7)]) (n := 95) rfl rfl rfl rfl rfl rfl rfl rfl rfl ?_
    refine im_g 1 (y := (1, _, _, _)) rfl trivial ?_
    refine im_sw (tgt := 144) rfl (by decide) (by decide) (Or.inr ⟨_, rfl, by decide⟩) (by decide) ?_
    refine im_g 2 (y := (148, _, _, _)) rfl trivial ?_
    refine im_r rfl rfl trivial rfl ?_
    exact ⟨rfl, rfl⟩
  · refine im_ct_of (own := 8) (ret := (some .int)) (code := ab_k_X8_count) (nL := 2) (L0 := [some (mr 0), some (.inl 8)]) (n := 95) rfl rfl rfl rfl rfl rfl rfl rfl rfl ?_
    refine im_g 1 (y := (1, _, _, _)) rfl trivial ?_
    refine im_sw (tgt := 149) rfl (by decide) (by decide) (Or.inr ⟨_, rfl, by decide⟩) (by decide) ?_
    refine im_g 6 (y := (158, _, _, _)) rfl ⟨(by decide), trivial⟩ ?_
    refine im_r rfl rfl trivial rfl ?_
    exact ⟨rfl, rfl⟩
  · refine im_ct_of (own := 8) (ret := (some .int)) (code := ab_k_X8_count) (nL := 2) (L0 := [some (mr 0), some (.inl 9)]) (n := 95) rfl rfl rfl rfl rfl rfl rfl rfl rfl ?_
    refine im_g 1 (y := (1, _, _, _)) rfl trivial ?_
    refine im_sw (tgt := 149) rfl (by decide) (by decide) (Or.inr ⟨_, rfl, by decide⟩) (by decide) ?_
    refine im_g 6 (y := (158, _, _, _)) rfl ⟨(by decide), trivial⟩ ?_
    refine im_r rfl rfl trivial rfl ?_
    exact ⟨rfl, rfl⟩
  · refine im_ct_of (own := 8) (ret := (some .int)) (code := ab_k_X8_count) (nL := 2) (L0 := [some (mr 0), some (.inl 10)]) (n := 95) rfl rfl rfl rfl rfl rfl rfl rfl rfl ?_
    refine im_g 1 (y := (1, _, _, _)) rfl trivial ?_
    refine im_sw (tgt := 149) rfl (by decide) (by decide) (Or.inr ⟨_, rfl, by decide⟩) (by decide) ?_
    refine im_g 6 (y := (158, _, _, _)) rfl ⟨(by decide), trivial⟩ ?_
    refine im_r rfl rfl trivial rfl ?_
    exact ⟨rfl, rfl⟩
  · refine im_ct_of (own := 8) (ret := (some .int)) (code := ab_k_X8_count) (nL := 2) (L0 := [some (mr 0), some (.inl 11)]) (n := 95) rfl rfl rfl rfl rfl rfl rfl rfl rfl ?_
    refine im_g 1 (y := (1, _, _, _)) rfl trivial ?_
    refine im_sw (tgt := 149) rfl (by decide) (by decide) (Or.inr ⟨_, rfl, by decide⟩) (by decide) ?_
    refine im_g 6 (y := (158, _, _, _)) rfl ⟨(by decide), trivial⟩ ?_
    refine im_r rfl rfl trivial rfl ?_
    exact ⟨rfl, rfl⟩
  · refine im_ct_of (own := 8) (ret := (some .int)) (code := ab_k_X8_count) (nL := 2) (L0 := [some (mr 0), some (.inl 12)]) (n := 95) rfl rfl rfl rfl rfl rfl rfl rfl rfl ?_
    refine im_g 1 (y := (1, _, _, _)) rfl trivial ?_
    refine im_sw (tgt := 149) rfl (by decide) (by decide) (Or.inr ⟨_, rfl, by decide⟩) (by decide) ?_
    refine im_g 6 (y := (158, _, _, _)) rfl ⟨(by decide), trivial⟩ ?_
    refine im_r rfl rfl trivial rfl ?_
    exact ⟨rfl, rfl⟩
  · refine im_ct_of (own := 8) (ret := (some .int)) (code := ab_k_X8_count) (nL := 2) (L0 := [some (mr 0), some (.inl 13)]) (n := 95) rfl rfl rfl rfl rfl rfl rfl rfl rfl ?_
    refine im_g 1 (y := (1, _, _, _)) rfl trivial ?_
    refine im_sw (tgt := 159) rfl (by decide) (by decide) (Or.inr ⟨_, rfl, by decide⟩) (by decide) ?_
    refine im_g 3 (y := (166, _, _, _)) rfl trivial ?_
    refine im_r rfl rfl trivial rfl ?_
    exact ⟨rfl, rfl⟩
  · refine im_ct_of (own := 8) (ret := (some .int)) (code := ab_k_X8_count) (nL := 2) (L0 := [some (mr 0), some (.inl 14)]) (n := 95) rfl rfl rfl rfl rfl rfl rfl rfl rfl ?_
    refine im_g 1 (y := (1, _, _, _)) rfl trivial ?_
    refine im_sw (tgt := 167) rfl (by decide) (by decide) (Or.inr ⟨_, rfl, by decide⟩) (by decide) ?_
    refine im_g 7 (y := (179, _, _, _)) rfl ⟨(by decide), trivial⟩ ?_
    refine im_r rfl rfl trivial rfl ?_
    exact ⟨rfl, rfl⟩
  · refine im_ct_of (own := 8) (ret := (some .int)) (code := ab_k_X8_count) (nL := 2) (L0 := [some (mr 0), some (.inl 15)]) (n := 95) rfl rfl rfl rfl rfl rfl rfl rfl rfl ?_
    refine im_g 1 (y := (1, _, _, _)) rfl trivial ?_
    refine im_sw (tgt := 167) rfl (by decide) (by decide) (Or.inr ⟨_, rfl, by decide⟩) (by decide) ?_
    refine im_g 7 (y := (179, _, _, _)) rfl ⟨(by decide), trivial⟩ ?_
    refine im_r rfl rfl trivial rfl ?_
    exact ⟨rfl, rfl⟩
  · refine im_ct_of (own := 8) (ret := (some .int)) (code := ab_k_X8_count) (nL := 2) (L0 := [some (mr 0), some (.inl 16)]) (n := 95) rfl rfl rfl rfl rfl rfl rfl rfl rfl ?_
    refine im_g 1 (y := (1, _, _, _)) rfl trivial ?_
    refine im_sw (tgt := 167) rfl (by decide) (by decide) (Or.inr ⟨_, rfl, by decide⟩) (by decide) ?_
    refine im_g 7 (y := (179, _, _, _)) rfl ⟨(by decide), trivial⟩ ?_
    refine im_r rfl rfl trivial rfl ?_
    exact ⟨rfl, rfl⟩
  · refine im_ct_of (own := 8) (ret := (some .int)) (code := ab_k_X8_count) (nL := 2) (L0 := [some (mr 0), some (.inl 17)]) (n := 95) rfl rfl rfl rfl rfl rfl rfl rfl rfl ?_
    refine im_g 1 (y := (1, _, _, _)) rfl trivial ?_
    refine im_sw (tgt := 167) rfl (by decide) (by decide) (Or.inr ⟨_, rfl, by decide⟩) (by decide) ?_
    refine im_g 7 (y := (179, _, _, _)) rfl ⟨(by decide), trivial⟩ ?_
    refine im_r rfl rfl trivial rfl ?_
    exact ⟨rfl, rfl⟩
  · refine im_ct_of (own := 8) (ret := (some .int)) (code := ab_k_X8_count) (nL := 2) (L0 := [some (mr 0), some (.inl what)]) (n := 95) rfl rfl rfl rfl rfl rfl rfl rfl rfl ?_
    refine im_g 1 (y := (1, _, _, _)) rfl trivial ?_
    refine im_sw (tgt := 180) rfl (by omega) (by decide) (Or.inl hk) (by unfold im_ts; rw [if_pos hk]; rfl) ?_
    refine im_g 1 (y := (181, _, _, _)) rfl trivial ?_
    refine im_r rfl rfl trivial rfl ?_
    refine ⟨congrArg (fun z => some (Sum.inl z)) ?_, rfl⟩
    unfold cw_cnt
    rw [if_neg (by omega), if_neg (by omega), if_neg (by omega), if_neg (by omega), if_neg (by omega), if_neg (by omega), if_neg (by omega), if_neg (by omega), if_neg (by omega), if_neg (by omega), if_neg (by omega), if_neg (by omega), if_neg (by omega), if_neg (by omega), if_neg (by omega), if_neg (by omega), if_neg (by omega), if_neg (by omega)]
end Ce
