/-! the class's calls: what is asked on paper (2) -/
section Ch
variable {ro : ab_R} {T : List im_T} {d : Nat} {xv : Nat → Int} {v : Nat → Int} {R : Nat → Int → Int} {g : Int → Option Nat} {ik : Int → Int} {y : cw_L} {f k : Int} {rw_ : Int → Int} {cv : Nat → Int} {cb : Int} {cs cwd : Int → Int} {U : cw_U} {W : cw_R} {fr : Int → Int} {I0 I1 : cw_L} {pv pcv : Nat → Int} {pb : Int} {ps pwd : Int → Int} {sv : Nat → Int} {sR : Nat → Int → Int} {sg : Int → Option Nat} {PR : Nat → Int → Int}
def cw_hid (lw : Option im_T) (v : Nat → Int) (R : Nat → Int → Int) (i : Int) : Int := if i = -1 then ((fh lw v R (v 0).toNat).1 : Int) else if 0 ≤ i ∧ i < ((fh lw v R (v 0).toNat).1 : Int) then (fh lw v R (v 0).toNat).2 i else -1
set_option maxHeartbeats 16000000 in
theorem cw_hidden (hd : 7 ≤ d) (hT : T.length < 1000) {lw : Option im_T} (h : LOK v R) (hday : R 7 0 ≤ 999) (hg : GV g T) (hl : LWR v g T lw) (hk : PKO pb ps pwd sv sR PR) (hpb : PRB PR) {i : Int} (hi : im_ir i) : im_ct ro T d 105 [mr 0, .inl i] (CW (xv, (v, R, g), ik, y, (f, k, rw_), (cv, cb, cs, cwd), U, (pv, (pcv, pb, ps, pwd), (sv, sR, sg), PR), W, fr, I0, I1)) (fun r w => r = some (.inl (cw_hid lw v R i)) ∧ ∃ pv1 pcv1 pb1 ps1 pwd1 sv1 sR1 sg1 PR1, PKO pb1 ps1 pwd1 sv1 sR1 PR1 ∧ PRB PR1 ∧ w = CW (xv, (v, R, g), ik, y, (f, k, rw_), (cv, cb, cs, cwd), U, (pv1, (pcv1, pb1, ps1, pwd1), (sv1, sR1, sg1), PR1), W, fr, I0, I1)) := by
  obtain ⟨d, rfl⟩ : ∃ e, d = e + 1 := ⟨d - 1, by omega⟩
  have hpar := lk_par h
  refine im_ct_of (own := 8) (ret := (some .int)) (code := ab_k_X8_hidden) (nL := 2) (L0 := [some (mr 0), some (.inl i)]) (n := 95) rfl rfl rfl rfl rfl rfl rfl rfl rfl ?_
  refine im_g 4 (y := (8, _, _, _)) rfl trivial ?_
  refine im_cPL rfl rfl (c_hidden (lw := lw) (by omega) hT h (by omega) hg hl (pv := pv) (cv := pcv) (sg := sg) hk hpb) rfl hT (fun v1 w1 hq => ?_)
  obtain ⟨rfl, pv1, pcv1, pb1, ps1, pwd1, sv1, sR1, sg1, PR1, hk1, hpb1, hI, hpv, rfl⟩ := hq
  refine ⟨_, _, _, _, _, _, _, _, _, _, _, _, _, rfl, rfl, ?_⟩
  have hfb := fh_b lw v R (v 0).toNat
  have hI0 := hI.1
  refine im_g 2 (y := (13, _, _, _)) rfl trivial ?_
  refine im_b rfl rfl ⟨(by first | omega | (have hI2 := hI.1; omega)), (by first | omega | (have hI2 := hI.1; omega)), trivial⟩ (fun j1 => ?_) (fun j1 => ?_)
  · refine im_g 1 (y := (25, _, _, _)) rfl trivial ?_
    refine im_b rfl rfl ⟨(by first | omega | (have hI2 := hI.1; omega)), trivial⟩ (fun j2 => ?_) (fun j2 => ?_)
    · refine im_g 1 (y := (52, _, _, _)) rfl trivial ?_
      refine im_r rfl rfl trivial rfl ?_
      refine ⟨congrArg (fun z => some (Sum.inl z)) ?_, pv1, pcv1, pb1, ps1, pwd1, sv1, sR1, sg1, PR1, hk1, hpb1, rfl⟩
      have hI1 := hI.1
      unfold cw_hid
      rw [if_neg (by omega), if_neg (by omega)]
    · refine im_g 4 (y := (36, _, _, _)) rfl trivial ?_
      refine im_b rfl rfl ⟨(by first | omega | (have hI2 := hI.1; omega)), (by first | omega | (have hI2 := hI.1; omega)), trivial⟩ (fun j3 => ?_) (fun j3 => ?_)
      · refine im_g 1 (y := (52, _, _, _)) rfl trivial ?_
        refine im_r rfl rfl trivial rfl ?_
        refine ⟨congrArg (fun z => some (Sum.inl z)) ?_, pv1, pcv1, pb1, ps1, pwd1, sv1, sR1, sg1, PR1, hk1, hpb1, rfl⟩
        have hI1 := hI.1
        unfold cw_hid
        rw [if_neg (by omega), if_neg (by omega)]
      · refine im_g 6 (y := (52, _, _, _)) rfl ⟨(by first | omega | (have hI2 := hI.1; omega)), trivial⟩ ?_
        refine im_r rfl rfl trivial rfl ?_
        refine ⟨congrArg (fun z => some (Sum.inl z)) ?_, pv1, pcv1, pb1, ps1, pwd1, sv1, sR1, sg1, PR1, hk1, hpb1, rfl⟩
        have hI1 := hI.1
        unfold cw_hid
        rw [if_neg (by omega), if_pos (by omega)]
        exact hI.2.1 _ (by omega) (by omega)
  · refine im_g 3 (y := (23, _, _, _)) rfl trivial ?_
    refine im_r rfl rfl trivial rfl ?_
    refine ⟨congrArg (fun z => some (Sum.inl z)) ?_, pv1, pcv1, pb1, ps1, pwd1, sv1, sR1, sg1, PR1, hk1, hpb1, rfl⟩
    unfold cw_hid
    rw [if_pos (by omega)]
    exact hI.1
set_option maxHeartbeats 16000000 in
theorem cw_look (hd : 8 ≤ d) (hT : T.length < 1000) {lw : Option im_T} (h : LOK v R) (hday : R 7 0 ≤ 999) (hg : GV g T) (hl : LWR v g T lw) (hk : PKO pb ps pwd sv sR PR) (hpb : PRB PR) {wh : Int} (hw : im_ir wh) : im_ct ro T d 106 [mr 0, .inl wh] (CW (xv, (v, R, g), ik, y, (f, k, rw_), (cv, cb, cs, cwd), U, (pv, (pcv, pb, ps, pwd), (sv, sR, sg), PR), W, fr, I0, I1)) (fun r w => ∃ a pv1 pcv1 pb1 ps1 pwd1 sv1 sR1 sg1 PR1, r = some (.inl a) ∧ (¬ (0 ≤ wh ∧ wh ≤ 1) → a = -1) ∧ ((0 ≤ wh ∧ wh ≤ 1) → FHI lw v R (v 0).toNat pv1 PR1 ∧ a = (if pv1 0 = 0 then -1 else if wh = 0 then (fl (PR1 3) (pv1 0).toNat (v 0).toNat).1 else (fl (PR1 3) (pv1 0).toNat (v 0).toNat).2)) ∧ PKO pb1 ps1 pwd1 sv1 sR1 PR1 ∧ PRB PR1 ∧ w = CW (xv, (v, R, g), ik, y, (f, k, rw_), (cv, cb, cs, cwd), U, (pv1, (pcv1, pb1, ps1, pwd1), (sv1, sR1, sg1), PR1), W, fr, I0, I1)) := by
  obtain ⟨d, rfl⟩ : ∃ e, d = e + 1 := ⟨d - 1, by omega⟩
  have hpar := lk_par h
  refine im_ct_of (own := 8) (ret := (some .int)) (code := ab_k_X8_look) (nL := 2) (L0 := [some (mr 0), some (.inl wh)]) (n := 95) rfl rfl rfl rfl rfl rfl rfl rfl rfl ?_
  refine im_g 1 (y := (1, _, _, _)) rfl trivial ?_
  refine im_b rfl rfl ⟨(by omega), trivial⟩ (fun j1 => ?_) (fun j1 => ?_)
  · refine im_g 1 (y := (10, _, _, _)) rfl trivial ?_
    refine im_r rfl rfl trivial rfl ?_
    exact ⟨_, pv, pcv, pb, ps, pwd, sv, sR, sg, PR, rfl, fun _ => rfl, fun z => (by omega), hk, hpb, rfl⟩
  · refine im_g 2 (y := (6, _, _, _)) rfl trivial ?_
    refine im_b rfl rfl ⟨(by omega), (by omega), trivial⟩ (fun j2 => ?_) (fun j2 => ?_)
    · refine im_g 4 (y := (19, _, _, _)) rfl trivial ?_
      refine im_cPL rfl rfl (c_look (lw := lw) (by omega) hT h (by omega) hg hl (pv := pv) (cv := pcv) (sg := sg) hk hpb) rfl hT (fun v1 w1 hq => ?_)
      obtain ⟨rfl, pv1, pcv1, pb1, ps1, pwd1, sv1, sR1, sg1, PR1, hk1, hpb1, hI, ⟨hz1, hz2⟩, rfl⟩ := hq
      refine ⟨_, _, _, _, _, _, _, _, _, _, _, _, _, rfl, rfl, ?_⟩
      refine im_g 1 (y := (23, _, _, _)) rfl trivial ?_
      refine im_b rfl rfl ⟨(by omega), trivial⟩ (fun j3 => ?_) (fun j3 => ?_)
      · refine im_g 3 (y := (43, _, _, _)) rfl trivial ?_
        refine im_r rfl rfl trivial rfl ?_
        refine ⟨_, pv1, pcv1, pb1, ps1, pwd1, sv1, sR1, sg1, PR1, rfl, fun z => absurd (by omega) z, fun _ => ⟨hI, ?_⟩, hk1, hpb1, rfl⟩
        rw [hz2]
        split
        · rfl
        · first | rfl | rw [if_neg (by omega)]
      · refine im_g 4 (y := (43, _, _, _)) rfl trivial ?_
        refine im_r rfl rfl trivial rfl ?_
        refine ⟨_, pv1, pcv1, pb1, ps1, pwd1, sv1, sR1, sg1, PR1, rfl, fun z => absurd (by omega) z, fun _ => ⟨hI, ?_⟩, hk1, hpb1, rfl⟩
        rw [hz1]
        split
        · rfl
        · first | rfl | rw [if_pos (by omega)]
    · refine im_g 1 (y := (10, _, _, _)) rfl trivial ?_
      refine im_r rfl rfl trivial rfl ?_
      exact ⟨_, pv, pcv, pb, ps, pwd, sv, sR, sg, PR, rfl, fun _ => rfl, fun z => (by omega), hk, hpb, rfl⟩
set_option maxHeartbeats 16000000 in
theorem cw_moved (hd : 7 ≤ d) (hT : T.length < 1000) {lw : Option im_T} (h : LOK v R) (hday : R 7 0 ≤ 999) (hg : GV g T) (hl : LWR v g T lw) (hk : PKO pb ps pwd sv sR PR) (hpb : PRB PR) {p : Int} (hp : im_ir p) : im_ct ro T d 107 [mr 0, .inl p] (CW (xv, (v, R, g), ik, y, (f, k, rw_), (cv, cb, cs, cwd), U, (pv, (pcv, pb, ps, pwd), (sv, sR, sg), PR), W, fr, I0, I1)) (fun r w => r = some (.inl (if (0 ≤ p ∧ p < v 0) ∧ R 2 p < 999 then mv_bits (on_all lw 0 p 1 v R).2.2.2 (on_all lw 0 (-1) 0 v R).2.2.2 (v 0).toNat else -1)) ∧ ∃ pv1 pcv1 pb1 ps1 pwd1 sv1 sR1 sg1 PR1, PKO pb1 ps1 pwd1 sv1 sR1 PR1 ∧ PRB PR1 ∧ w = CW (xv, (v, R, g), ik, y, (f, k, rw_), (cv, cb, cs, cwd), U, (pv1, (pcv1, pb1, ps1, pwd1), (sv1, sR1, sg1), PR1), W, fr, I0, I1)) := by
  obtain ⟨d, rfl⟩ : ∃ e, d = e + 1 := ⟨d - 1, by omega⟩
  have hpar := lk_par h
  refine im_ct_of (own := 8) (ret := (some .int)) (code := ab_k_X8_moved) (nL := 2) (L0 := [some (mr 0), some (.inl p)]) (n := 95) rfl rfl rfl rfl rfl rfl rfl rfl rfl ?_
  refine im_g 3 (y := (5, _, _, _)) rfl trivial ?_
  refine im_cL rfl rfl (c_has (v := v) (R := R) (g := g) (p := p) (by omega) hT hp (lk_par h)) rfl hT (fun v1 w1 hq => ?_)
  obtain ⟨rfl, rfl⟩ := hq
  refine ⟨_, _, _, _, rfl, rfl, ?_⟩
  refine im_b rfl rfl ⟨(by split <;> decide), trivial⟩ (fun j1 => ?_) (fun j1 => ?_)
  · have hpn : ¬ (0 ≤ p ∧ p < v 0) := by
      intro cz
      rw [if_pos ⟨cz.1, cz.2, by omega⟩] at j1
      exact absurd j1 (by decide)
    clear j1
    refine im_g 1 (y := (27, _, _, _)) rfl trivial ?_
    refine im_r rfl rfl trivial rfl ?_
    refine ⟨congrArg (fun z => some (Sum.inl z)) ?_, pv, pcv, pb, ps, pwd, sv, sR, sg, PR, hk, hpb, rfl⟩
    rw [if_neg (fun z => hpn z.1)]
  · have hpp : 0 ≤ p ∧ p < v 0 := by
      by_cases cz : 0 ≤ p ∧ p < v 0 ∧ p < 10
      · exact ⟨cz.1, cz.2.1⟩
      · rw [if_neg cz] at j1; exact absurd rfl j1
    clear j1
    refine im_g 6 (y := (23, _, _, _)) rfl ⟨(by omega), trivial⟩ ?_
    refine im_b rfl rfl ⟨(by first | omega | (have hcc := lk_cnt h p; omega)), (by first | omega | (have hcc := lk_cnt h p; omega)), trivial⟩ (fun j2 => ?_) (fun j2 => ?_)
    · refine im_g 5 (y := (37, _, _, _)) rfl trivial ?_
      refine im_cPL rfl rfl (c_moved (lw := lw) (by omega) hT h (by omega) hg hl (pv := pv) (cv := pcv) (sg := sg) hk hpb (p := p) hpp (by omega)) rfl hT (fun v1 w1 hq => ?_)
      obtain ⟨rfl, pcv1, pb1, ps1, pwd1, sv1, sR1, sg1, PR1, hk1, hpb1, rfl⟩ := hq
      refine ⟨_, _, _, _, _, _, _, _, _, _, _, _, _, rfl, rfl, ?_⟩
      refine im_r rfl rfl trivial rfl ?_
      refine ⟨congrArg (fun z => some (Sum.inl z)) ?_, pv, pcv1, pb1, ps1, pwd1, sv1, sR1, sg1, PR1, hk1, hpb1, rfl⟩
      rw [if_pos ⟨hpp, by omega⟩]
    · refine im_g 1 (y := (27, _, _, _)) rfl trivial ?_
      refine im_r rfl rfl trivial rfl ?_
      refine ⟨congrArg (fun z => some (Sum.inl z)) ?_, pv, pcv, pb, ps, pwd, sv, sR, sg, PR, hk, hpb, rfl⟩
      rw [if_neg (by omega)]
theorem cw_ff6 (lw : Option im_T) {v : Nat → Int} {R : Nat → Int → Int} (h : LOK v R) (hd : R 7 0 ≤ 999) (h6 : 0 ≤ v 6 ∧ v 6 ≤ 1000000) (m : Nat) (hm : 1 ≤ m) : 0 ≤ (ff lw v R m).1 6 ∧ (ff lw v R m).1 6 ≤ 1000000 := by
  obtain ⟨k, rfl⟩ : ∃ k, m = k + 1 := ⟨m - 1, by omega⟩
  have t := (ff_d_ok (lw := lw) (FFI_m lw h hd k)).2.1
  show 0 ≤ (ff_d lw (ff lw v R k)).1 6 ∧ (ff_d lw (ff lw v R k)).1 6 ≤ 1000000
  omega
set_option maxHeartbeats 16000000 in
theorem cw_flow (hd : 7 ≤ d) (hT : T.length < 1000) {lw : Option im_T} (h : LOK v R) (hday : R 7 0 ≤ 999) (hg : GV g T) (hl : LWR v g T lw) (hk : PKO pb ps pwd sv sR PR) (hpb : PRB PR) {n wh : Int} (hn : im_ir n) (hw : im_ir wh) : im_ct ro T d 108 [mr 0, .inl n, .inl wh] (CW (xv, (v, R, g), ik, y, (f, k, rw_), (cv, cb, cs, cwd), U, (pv, (pcv, pb, ps, pwd), (sv, sR, sg), PR), W, fr, I0, I1)) (fun r w => r = some (.inl (if (1 ≤ n ∧ n ≤ 60) ∧ 0 ≤ wh ∧ wh ≤ 2 then (if wh = 0 then (ff lw (pl_v sv v) (pl_R sR R) n.toNat).2.2.1 else if wh = 1 then (ff lw (pl_v sv v) (pl_R sR R) n.toNat).2.2.2.1 else (ff lw (pl_v sv v) (pl_R sR R) n.toNat).2.2.2.2) else -1)) ∧ ∃ pv1 pcv1 pb1 ps1 pwd1 sv1 sR1 sg1 PR1, PKO pb1 ps1 pwd1 sv1 sR1 PR1 ∧ PRB PR1 ∧ w = CW (xv, (v, R, g), ik, y, (f, k, rw_), (cv, cb, cs, cwd), U, (pv1, (pcv1, pb1, ps1, pwd1), (sv1, sR1, sg1), PR1), W, fr, I0, I1)) := by
  obtain ⟨d, rfl⟩ : ∃ e, d = e + 1 := ⟨d - 1, by omega⟩
  have hpar := lk_par h
  have hto : LOK (pl_v sv v) (pl_R sR R) ∧ pl_R sR R 7 0 ≤ 999 := ⟨LOK_take hk.2.2.2.1 h, hday⟩
  have hFI := FFI_m lw hto.1 hto.2 n.toNat
  refine im_ct_of (own := 8) (ret := (some .int)) (code := ab_k_X8_flow) (nL := 3) (L0 := [some (mr 0), some (.inl n), some (.inl wh)]) (n := 95) rfl rfl rfl rfl rfl rfl rfl rfl rfl ?_
  refine im_g 2 (y := (2, _, _, _)) rfl trivial ?_
  refine im_b rfl rfl ⟨(by omega), (by omega), trivial⟩ (fun j1 => ?_) (fun j1 => ?_)
  · refine im_g 1 (y := (21, _, _, _)) rfl trivial ?_
    refine im_r rfl rfl trivial rfl ?_
    refine ⟨congrArg (fun z => some (Sum.inl z)) ?_, pv, pcv, pb, ps, pwd, sv, sR, sg, PR, hk, hpb, rfl⟩
    rw [if_neg (by omega)]
  · refine im_g 2 (y := (8, _, _, _)) rfl trivial ?_
    refine im_b rfl rfl ⟨(by omega), (by omega), trivial⟩ (fun j2 => ?_) (fun j2 => ?_)
    · refine im_g 1 (y := (21, _, _, _)) rfl trivial ?_
      refine im_r rfl rfl trivial rfl ?_
      refine ⟨congrArg (fun z => some (Sum.inl z)) ?_, pv, pcv, pb, ps, pwd, sv, sR, sg, PR, hk, hpb, rfl⟩
      rw [if_neg (by omega)]
    · refine im_g 1 (y := (12, _, _, _)) rfl trivial ?_
      refine im_b rfl rfl ⟨(by omega), trivial⟩ (fun j3 => ?_) (fun j3 => ?_)
      · refine im_g 1 (y := (21, _, _, _)) rfl trivial ?_
        refine im_r rfl rfl trivial rfl ?_
        refine ⟨congrArg (fun z => some (Sum.inl z)) ?_, pv, pcv, pb, ps, pwd, sv, sR, sg, PR, hk, hpb, rfl⟩
        rw [if_neg (by omega)]
      · refine im_g 2 (y := (17, _, _, _)) rfl trivial ?_
        refine im_b rfl rfl ⟨(by omega), (by omega), trivial⟩ (fun j4 => ?_) (fun j4 => ?_)
        · refine im_g 5 (y := (31, _, _, _)) rfl trivial ?_
          refine im_cPL rfl rfl (c_flow (lw := lw) (by omega) hT h (by omega) hg hl (by omega) (pv := pv) (cv := pcv) (sg := sg) hk hpb (n := n) (by omega)) rfl hT (fun v1 w1 hq => ?_)
          obtain ⟨rfl, pv1, pcv1, pb1, ps1, pwd1, hb1, hs1, hw1, ⟨-, hz1, hz2, hz3⟩, rfl⟩ := hq
          refine ⟨_, _, _, _, _, _, _, _, _, _, _, _, _, rfl, rfl, ?_⟩
          refine im_g 1 (y := (35, _, _, _)) rfl trivial ?_
          have hk9 : wh = 0 ∨ wh = 1 ∨ wh = 2 := by omega
          rcases hk9 with rfl | rfl | rfl
          · refine im_ls 60 rfl (by decide) rfl (by decide) rfl ?_
            refine im_g 3 (y := (67, _, _, _)) rfl trivial ?_
            refine im_r rfl rfl trivial rfl ?_
            refine ⟨congrArg (fun z => some (Sum.inl z)) ?_, pv1, pcv1, pb1, ps1, pwd1, (ff lw (pl_v sv v) (pl_R sR R) n.toNat).1, (ff lw (pl_v sv v) (pl_R sR R) n.toNat).2.1, pl_g sg g 6, PR, ⟨hb1, hs1, hw1, hFI.1, cw_ff6 lw hto.1 hto.2 hk.2.2.2.2.1 n.toNat (by omega), hk.2.2.2.2.2⟩, hpb, rfl⟩
            rw [if_pos (by omega)]
            rw [if_pos rfl]
            exact hz1
          · refine im_ls 68 rfl (by decide) rfl (by decide) rfl ?_
            refine im_g 3 (y := (75, _, _, _)) rfl trivial ?_
            refine im_r rfl rfl trivial rfl ?_
            refine ⟨congrArg (fun z => some (Sum.inl z)) ?_, pv1, pcv1, pb1, ps1, pwd1, (ff lw (pl_v sv v) (pl_R sR R) n.toNat).1, (ff lw (pl_v sv v) (pl_R sR R) n.toNat).2.1, pl_g sg g 6, PR, ⟨hb1, hs1, hw1, hFI.1, cw_ff6 lw hto.1 hto.2 hk.2.2.2.2.1 n.toNat (by omega), hk.2.2.2.2.2⟩, hpb, rfl⟩
            rw [if_pos (by omega)]
            rw [if_neg (by decide), if_pos rfl]
            exact hz2
          · refine im_ls 76 rfl (by decide) rfl (by decide) rfl ?_
            refine im_g 3 (y := (83, _, _, _)) rfl trivial ?_
            refine im_r rfl rfl trivial rfl ?_
            refine ⟨congrArg (fun z => some (Sum.inl z)) ?_, pv1, pcv1, pb1, ps1, pwd1, (ff lw (pl_v sv v) (pl_R sR R) n.toNat).1, (ff lw (pl_v sv v) (pl_R sR R) n.toNat).2.1, pl_g sg g 6, PR, ⟨hb1, hs1, hw1, hFI.1, cw_ff6 lw hto.1 hto.2 hk.2.2.2.2.1 n.toNat (by omega), hk.2.2.2.2.2⟩, hpb, rfl⟩
            rw [if_pos (by omega)]
            rw [if_neg (by decide), if_neg (by decide)]
            exact hz3
        · refine im_g 1 (y := (21, _, _, _)) rfl trivial ?_
          refine im_r rfl rfl trivial rfl ?_
          refine ⟨congrArg (fun z => some (Sum.inl z)) ?_, pv, pcv, pb, ps, pwd, sv, sR, sg, PR, hk, hpb, rfl⟩
          rw [if_neg (by omega)]
end Ch
