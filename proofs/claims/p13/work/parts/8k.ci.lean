/-! the class's calls: years, what was drawn, terms -/
theorem cw_ddb {lw : Option im_T} {v0 : Nat → Int} : ∀ (n : Nat) {z : dd_S} {m : Int}, DDI v0 m z → 0 ≤ m → DDI v0 (m + (n : Int)) (dd lw n z)
  | 0, z, m, h, _ => by
    rw [show m + ((0 : Nat) : Int) = m by omega]
    exact h
  | n + 1, z, m, h, hm => by
    show DDI v0 _ (if z.2.1 7 0 < 999 ∧ 0 < z.1 0 then dd lw n (dd_1 lw z) else z)
    by_cases c : z.2.1 7 0 < 999 ∧ 0 < z.1 0
    · rw [if_pos c, show m + ((n + 1 : Nat) : Int) = m + 1 + (n : Int) by omega]
      exact cw_ddb n (DDI_1 h c.1) (by omega)
    · rw [if_neg c]
      have h5 := h.2.2.2.2
      exact ⟨h.1, h.2.1, h.2.2.1, h.2.2.2.1, by omega, by omega⟩
def te_lo (t : Int) : Int := if t = 1 then 2 else 0
def te_hi (t : Int) : Int := if t = 0 then 999 else if t = 1 then 99 else if t = 2 then 10 else 9
theorem te_lo_ok {t : Int} (h : 0 ≤ t ∧ t < 4) : ab_tl t.toNat = Int32.ofInt (te_lo t) := by
  have hk : t = 0 ∨ t = 1 ∨ t = 2 ∨ t = 3 := by omega
  rcases hk with rfl | rfl | rfl | rfl <;> decide
theorem te_hi_ok {t : Int} (h : 0 ≤ t ∧ t < 4) : ab_tm t.toNat = Int32.ofInt (te_hi t) := by
  have hk : t = 0 ∨ t = 1 ∨ t = 2 ∨ t = 3 := by omega
  rcases hk with rfl | rfl | rfl | rfl <;> decide
theorem te_b (t : Int) : (0 ≤ te_lo t ∧ te_lo t ≤ 2) ∧ 0 ≤ te_hi t ∧ te_hi t ≤ 999 := by
  unfold te_lo te_hi
  refine ⟨?_, ?_⟩
  · split <;> omega
  · split
    · omega
    split
    · omega
    split <;> omega
section Ci
variable {ro : ab_R} {T : List im_T} {d : Nat} {xv : Nat → Int} {v : Nat → Int} {R : Nat → Int → Int} {g : Int → Option Nat} {ik : Int → Int} {yv : Nat → Int} {yR : Nat → Int → Int} {yg : Int → Option Nat} {f k : Int} {rw_ : Int → Int} {cv : Nat → Int} {cb : Int} {cs cwd : Int → Int} {U : cw_U} {W : cw_R} {fr : Int → Int} {I0 I1 : cw_L} {pv pcv : Nat → Int} {pb : Int} {ps pwd : Int → Int} {sv : Nat → Int} {sR : Nat → Int → Int} {sg : Int → Option Nat} {PR : Nat → Int → Int}
set_option maxHeartbeats 16000000 in
theorem cw_years (hd : 8 ≤ d) (hT : T.length < 1000) {lw : Option im_T} (h : LOK v R) (hday : R 7 0 ≤ 999) (hg : GV g T) (hl : LWR v g T lw) (hk : PKO pb ps pwd sv sR PR) (hpb : PRB PR) (hy : LOK yv yR) {seed n : Int} (hs : im_ir seed) (hn : im_ir n) : im_ct ro T d 109 [mr 0, .inl seed, .inl n] (CW (xv, (v, R, g), ik, (yv, yR, yg), (f, k, rw_), (cv, cb, cs, cwd), U, (pv, (pcv, pb, ps, pwd), (sv, sR, sg), PR), W, fr, I0, I1)) (fun r w => (¬ ((0 ≤ seed ∧ seed ≤ 1000000) ∧ 1 ≤ n ∧ n ≤ 100) → r = some (.inl (-1)) ∧ w = CW ((pl_U xv 12 (if (-1) < 0 then (-1) else 0)), (v, R, g), ik, (yv, yR, yg), (f, k, rw_), (cv, cb, cs, cwd), U, (pv, (pcv, pb, ps, pwd), (sv, sR, sg), PR), W, (cw_fr (-1) fr), I0, I1)) ∧ (((0 ≤ seed ∧ seed ≤ 1000000) ∧ 1 ≤ n ∧ n ≤ 100) ∧ v 0 = 0 → r = some (.inl (-3)) ∧ w = CW ((pl_U xv 12 (if (-3) < 0 then (-3) else 0)), (v, R, g), ik, (yv, yR, yg), (f, k, rw_), (cv, cb, cs, cwd), U, (pv, (pcv, pb, ps, pwd), (sv, sR, sg), PR), W, (cw_fr (-3) fr), I0, I1)) ∧ (((0 ≤ seed ∧ seed ≤ 1000000) ∧ 1 ≤ n ∧ n ≤ 100) ∧ ¬ v 0 = 0 → r = some (.inl (dd lw n.toNat ((pl_v yv v, pl_R yR R, seed, 0) : dd_S)).2.2.2) ∧ ∃ pcv1 pb1 ps1 pwd1, ((pb1 = 0 ∨ pb1 = 1) ∧ SOK ps1 ∧ WOK pwd1) ∧ w = CW ((pl_U (pl_U xv 5 1) 12 (if (dd lw n.toNat ((pl_v yv v, pl_R yR R, seed, 0) : dd_S)).2.2.2 < 0 then (dd lw n.toNat ((pl_v yv v, pl_R yR R, seed, 0) : dd_S)).2.2.2 else 0)), (v, R, g), ik, ((dd lw n.toNat ((pl_v yv v, pl_R yR R, seed, 0) : dd_S)).1, (dd lw n.toNat ((pl_v yv v, pl_R yR R, seed, 0) : dd_S)).2.1, pl_g yg g 6), (f, k, rw_), (cv, cb, cs, cwd), U, (pv, (pcv1, pb1, ps1, pwd1), (sv, sR, sg), PR), W, (cw_fr (dd lw n.toNat ((pl_v yv v, pl_R yR R, seed, 0) : dd_S)).2.2.2 fr), I0, I1))) := by
  obtain ⟨d, rfl⟩ : ∃ e, d = e + 1 := ⟨d - 1, by omega⟩
  have hpar := lk_par h
  refine im_ct_of (own := 8) (ret := (some .int)) (code := ab_k_X8_years) (nL := 3) (L0 := [some (mr 0), some (.inl seed), some (.inl n)]) (n := 95) rfl rfl rfl rfl rfl rfl rfl rfl rfl ?_
  refine im_g 1 (y := (1, _, _, _)) rfl trivial ?_
  refine im_b rfl rfl ⟨(by omega), trivial⟩ (fun j1 => ?_) (fun j1 => ?_)
  · refine im_g 2 (y := (24, _, _, _)) rfl trivial ?_
    refine im_eqs (y := (24, _, _, CW (xv, (v, R, g), ik, (yv, yR, yg), (f, k, rw_), (cv, cb, cs, cwd), U, (pv, (pcv, pb, ps, pwd), (sv, sR, sg), PR), W, fr, I0, I1))) rfl ?_
    refine im_cX rfl rfl (cw_settle (x := (-1)) (by omega) hT (by decide)) rfl hT (fun v1 w1 hq => ?_)
    obtain ⟨rfl, rfl⟩ := hq
    refine ⟨((pl_U xv 12 (if (-1) < 0 then (-1) else 0)), (v, R, g), ik, (yv, yR, yg), (f, k, rw_), (cv, cb, cs, cwd), U, (pv, (pcv, pb, ps, pwd), (sv, sR, sg), PR), W, (cw_fr (-1) fr), I0, I1), rfl, rfl, ?_⟩
    refine im_r rfl rfl trivial rfl ?_
    first | (exact ⟨fun _ => ⟨rfl, rfl⟩, fun z => (by omega), fun z => (by omega)⟩) | (exact ⟨fun z => (by omega), fun _ => ⟨rfl, rfl⟩, fun z => (by omega)⟩)
  · refine im_g 2 (y := (8, _, _, _)) rfl trivial ?_
    refine im_b rfl rfl ⟨(by omega), (by omega), trivial⟩ (fun j2 => ?_) (fun j2 => ?_)
    · refine im_g 2 (y := (24, _, _, _)) rfl trivial ?_
      refine im_eqs (y := (24, _, _, CW (xv, (v, R, g), ik, (yv, yR, yg), (f, k, rw_), (cv, cb, cs, cwd), U, (pv, (pcv, pb, ps, pwd), (sv, sR, sg), PR), W, fr, I0, I1))) rfl ?_
      refine im_cX rfl rfl (cw_settle (x := (-1)) (by omega) hT (by decide)) rfl hT (fun v1 w1 hq => ?_)
      obtain ⟨rfl, rfl⟩ := hq
      refine ⟨((pl_U xv 12 (if (-1) < 0 then (-1) else 0)), (v, R, g), ik, (yv, yR, yg), (f, k, rw_), (cv, cb, cs, cwd), U, (pv, (pcv, pb, ps, pwd), (sv, sR, sg), PR), W, (cw_fr (-1) fr), I0, I1), rfl, rfl, ?_⟩
      refine im_r rfl rfl trivial rfl ?_
      first | (exact ⟨fun _ => ⟨rfl, rfl⟩, fun z => (by omega), fun z => (by omega)⟩) | (exact ⟨fun z => (by omega), fun _ => ⟨rfl, rfl⟩, fun z => (by omega)⟩)
    · refine im_g 2 (y := (13, _, _, _)) rfl trivial ?_
      refine im_b rfl rfl ⟨(by omega), (by omega), trivial⟩ (fun j3 => ?_) (fun j3 => ?_)
      · refine im_g 2 (y := (24, _, _, _)) rfl trivial ?_
        refine im_eqs (y := (24, _, _, CW (xv, (v, R, g), ik, (yv, yR, yg), (f, k, rw_), (cv, cb, cs, cwd), U, (pv, (pcv, pb, ps, pwd), (sv, sR, sg), PR), W, fr, I0, I1))) rfl ?_
        refine im_cX rfl rfl (cw_settle (x := (-1)) (by omega) hT (by decide)) rfl hT (fun v1 w1 hq => ?_)
        obtain ⟨rfl, rfl⟩ := hq
        refine ⟨((pl_U xv 12 (if (-1) < 0 then (-1) else 0)), (v, R, g), ik, (yv, yR, yg), (f, k, rw_), (cv, cb, cs, cwd), U, (pv, (pcv, pb, ps, pwd), (sv, sR, sg), PR), W, (cw_fr (-1) fr), I0, I1), rfl, rfl, ?_⟩
        refine im_r rfl rfl trivial rfl ?_
        first | (exact ⟨fun _ => ⟨rfl, rfl⟩, fun z => (by omega), fun z => (by omega)⟩) | (exact ⟨fun z => (by omega), fun _ => ⟨rfl, rfl⟩, fun z => (by omega)⟩)
      · refine im_g 2 (y := (19, _, _, _)) rfl trivial ?_
        refine im_b rfl rfl ⟨(by omega), (by omega), trivial⟩ (fun j4 => ?_) (fun j4 => ?_)
        · refine im_g 3 (y := (35, _, _, _)) rfl trivial ?_
          refine im_b rfl rfl ⟨(by omega), trivial⟩ (fun j5 => ?_) (fun j5 => ?_)
          · have hz0 : DDI (pl_v yv v) 0 ((pl_v yv v, pl_R yR R, seed, 0) : dd_S) := ⟨LOK_take hy h, by show pl_R yR R 7 0 ≤ 999; rw [(pl_R_q yR R 0 (by decide) (by decide)).2.2.2.2.1]; exact hday, rfl, ⟨by show (0 : Int) ≤ seed; omega, by show seed ≤ 1000003; omega⟩, Int.le_refl _, Int.le_refl _⟩
            have hDI := cw_ddb (lw := lw) n.toNat hz0 (Int.le_refl _)
            have hbd : -6 ≤ (dd lw n.toNat ((pl_v yv v, pl_R yR R, seed, 0) : dd_S)).2.2.2 ∧ (dd lw n.toNat ((pl_v yv v, pl_R yR R, seed, 0) : dd_S)).2.2.2 ≤ 2000000 := by
              have h5 := hDI.2.2.2.2
              constructor <;> omega
            refine im_g 4 (y := (53, _, _, _)) rfl trivial ?_
            refine im_cYL rfl rfl (c_takeFrom (v := yv) (v2 := v) (R := yR) (R2 := R) (g := yg) (g2 := g) (by omega) hT (fun t ht => hg _ t ht)) rfl hT (fun v1 w1 hq => ?_)
            obtain ⟨rfl, rfl⟩ := hq
            refine ⟨_, _, _, _, _, _, _, rfl, rfl, ?_⟩
            refine im_g 10 (y := (72, _, _, _)) rfl ⟨(by omega), trivial⟩ ?_
            refine im_call [41,42,43,44,45,46,47,48,49,50,51,52,53,54,55,56,57,58,59,60,61,62,63,64,15,16,17,18,19,20,21,22,23,24,25,26] rfl rfl (c_draw (by omega) hT (v0 := pl_v yv v) (v := pl_v yv v) (R := pl_R yR R) (g := pl_g yg g 6) (lw := lw) (LWR_take h hl) (pv := pv) (cv := pcv) (sg := sg) (sv := sv) (sR := sR) (PR := PR) hk.1 hk.2.1 hk.2.2.1 (seed := seed) (n := n) (by omega) hz0) rfl rfl rfl (by decide) rfl (by decide) hT (fun v1 w1 hq => ?_)
            obtain ⟨rfl, pcv1, pb1, ps1, pwd1, hb1, hs1, hw1, rfl⟩ := hq
            refine ⟨_, _, CW ((pl_U xv 5 1), (v, R, g), ik, ((dd lw n.toNat ((pl_v yv v, pl_R yR R, seed, 0) : dd_S)).1, (dd lw n.toNat ((pl_v yv v, pl_R yR R, seed, 0) : dd_S)).2.1, pl_g yg g 6), (f, k, rw_), (cv, cb, cs, cwd), U, (pv, (pcv1, pb1, ps1, pwd1), (sv, sR, sg), PR), W, fr, I0, I1), rfl, rfl, rfl, ?_⟩
            refine im_eqs (y := (75, _, _, CW ((pl_U xv 5 1), (v, R, g), ik, ((dd lw n.toNat ((pl_v yv v, pl_R yR R, seed, 0) : dd_S)).1, (dd lw n.toNat ((pl_v yv v, pl_R yR R, seed, 0) : dd_S)).2.1, pl_g yg g 6), (f, k, rw_), (cv, cb, cs, cwd), U, (pv, (pcv1, pb1, ps1, pwd1), (sv, sR, sg), PR), W, fr, I0, I1))) rfl ?_
            refine im_cX rfl rfl (cw_settle (x := (dd lw n.toNat ((pl_v yv v, pl_R yR R, seed, 0) : dd_S)).2.2.2) (by omega) hT hbd) rfl hT (fun v1 w1 hq => ?_)
            obtain ⟨rfl, rfl⟩ := hq
            refine ⟨((pl_U (pl_U xv 5 1) 12 (if (dd lw n.toNat ((pl_v yv v, pl_R yR R, seed, 0) : dd_S)).2.2.2 < 0 then (dd lw n.toNat ((pl_v yv v, pl_R yR R, seed, 0) : dd_S)).2.2.2 else 0)), (v, R, g), ik, ((dd lw n.toNat ((pl_v yv v, pl_R yR R, seed, 0) : dd_S)).1, (dd lw n.toNat ((pl_v yv v, pl_R yR R, seed, 0) : dd_S)).2.1, pl_g yg g 6), (f, k, rw_), (cv, cb, cs, cwd), U, (pv, (pcv1, pb1, ps1, pwd1), (sv, sR, sg), PR), W, (cw_fr (dd lw n.toNat ((pl_v yv v, pl_R yR R, seed, 0) : dd_S)).2.2.2 fr), I0, I1), rfl, rfl, ?_⟩
            refine im_r rfl rfl trivial rfl ?_
            first | (exact ⟨fun _ => ⟨rfl, rfl⟩, fun z => (by omega), fun z => (by omega)⟩) | (exact ⟨fun z => (by omega), fun _ => ⟨rfl, rfl⟩, fun z => (by omega)⟩) | (exact ⟨fun z => (by omega), fun z => (by omega), fun _ => ⟨rfl, pcv1, pb1, ps1, pwd1, ⟨hb1, hs1, hw1⟩, rfl⟩⟩)
          · refine im_g 2 (y := (41, _, _, _)) rfl trivial ?_
            refine im_eqs (y := (41, _, _, CW (xv, (v, R, g), ik, (yv, yR, yg), (f, k, rw_), (cv, cb, cs, cwd), U, (pv, (pcv, pb, ps, pwd), (sv, sR, sg), PR), W, fr, I0, I1))) rfl ?_
            refine im_cX rfl rfl (cw_settle (x := (-3)) (by omega) hT (by decide)) rfl hT (fun v1 w1 hq => ?_)
            obtain ⟨rfl, rfl⟩ := hq
            refine ⟨((pl_U xv 12 (if (-3) < 0 then (-3) else 0)), (v, R, g), ik, (yv, yR, yg), (f, k, rw_), (cv, cb, cs, cwd), U, (pv, (pcv, pb, ps, pwd), (sv, sR, sg), PR), W, (cw_fr (-3) fr), I0, I1), rfl, rfl, ?_⟩
            refine im_r rfl rfl trivial rfl ?_
            first | (exact ⟨fun _ => ⟨rfl, rfl⟩, fun z => (by omega), fun z => (by omega)⟩) | (exact ⟨fun z => (by omega), fun _ => ⟨rfl, rfl⟩, fun z => (by omega)⟩)
        · refine im_g 2 (y := (24, _, _, _)) rfl trivial ?_
          refine im_eqs (y := (24, _, _, CW (xv, (v, R, g), ik, (yv, yR, yg), (f, k, rw_), (cv, cb, cs, cwd), U, (pv, (pcv, pb, ps, pwd), (sv, sR, sg), PR), W, fr, I0, I1))) rfl ?_
          refine im_cX rfl rfl (cw_settle (x := (-1)) (by omega) hT (by decide)) rfl hT (fun v1 w1 hq => ?_)
          obtain ⟨rfl, rfl⟩ := hq
          refine ⟨((pl_U xv 12 (if (-1) < 0 then (-1) else 0)), (v, R, g), ik, (yv, yR, yg), (f, k, rw_), (cv, cb, cs, cwd), U, (pv, (pcv, pb, ps, pwd), (sv, sR, sg), PR), W, (cw_fr (-1) fr), I0, I1), rfl, rfl, ?_⟩
          refine im_r rfl rfl trivial rfl ?_
          first | (exact ⟨fun _ => ⟨rfl, rfl⟩, fun z => (by omega), fun z => (by omega)⟩) | (exact ⟨fun z => (by omega), fun _ => ⟨rfl, rfl⟩, fun z => (by omega)⟩)
def cw_dr (yk : Int) (yv : Nat → Int) (yR : Nat → Int → Int) (p what : Int) : Int := if yk = 0 then -1 else if what = 2 then pl_sum (yR 5) (yv 1).toNat else if 0 ≤ p ∧ p < yv 0 then (if what = 0 then yR 2 p else if what = 1 then yR 3 p else -1) else -1
set_option maxHeartbeats 8000000 in
theorem cw_drawn (hd : 3 ≤ d) (hT : T.length < 1000) {P : cw_P} (hy : LOK yv yR) (hx5 : xv 5 = 0 ∨ xv 5 = 1) {p what : Int} (hp : im_ir p) (hw : im_ir what) : im_ct ro T d 110 [mr 0, .inl p, .inl what] (CW (xv, (v, R, g), ik, (yv, yR, yg), (f, k, rw_), (cv, cb, cs, cwd), U, P, W, fr, I0, I1)) (fun r w => r = some (.inl (cw_dr (xv 5) yv yR p what)) ∧ w = CW (xv, (v, R, g), ik, (yv, yR, yg), (f, k, rw_), (cv, cb, cs, cwd), U, P, W, fr, I0, I1)) := by
  obtain ⟨d, rfl⟩ : ∃ e, d = e + 1 := ⟨d - 1, by omega⟩
  have hpar := lk_par hy
  refine im_ct_of (own := 8) (ret := (some .int)) (code := ab_k_X8_drawn) (nL := 3) (L0 := [some (mr 0), some (.inl p), some (.inl what)]) (n := 95) rfl rfl rfl rfl rfl rfl rfl rfl rfl ?_
  refine im_g 2 (y := (4, _, _, _)) rfl trivial ?_
  refine im_b rfl rfl ⟨(by omega), trivial⟩ (fun j1 => ?_) (fun j1 => ?_)
  · refine im_g 2 (y := (11, _, _, _)) rfl trivial ?_
    refine im_b rfl rfl ⟨(by omega), (by omega), trivial⟩ (fun j2 => ?_) (fun j2 => ?_)
    · refine im_g 3 (y := (27, _, _, _)) rfl trivial ?_
      refine im_cY rfl rfl (c_has (v := yv) (R := yR) (g := yg) (p := p) (by omega) hT hp (lk_par hy)) rfl hT (fun v1 w1 hq => ?_)
      obtain ⟨rfl, rfl⟩ := hq
      refine ⟨_, _, _, _, rfl, rfl, ?_⟩
      refine im_b rfl rfl ⟨(by split <;> decide), trivial⟩ (fun j3 => ?_) (fun j3 => ?_)
      · have hpp : 0 ≤ p ∧ p < yv 0 := by
          by_cases cz : 0 ≤ p ∧ p < yv 0 ∧ p < 10
          · exact ⟨cz.1, cz.2.1⟩
          · rw [if_neg cz] at j3; exact absurd rfl j3
        clear j3
        refine im_g 1 (y := (36, _, _, _)) rfl trivial ?_
        have hk9 : what = 0 ∨ what = 1 ∨ (¬ 0 = what ∧ ¬ 1 = what) := by omega
        rcases hk9 with rfl | rfl | ⟨h0, h1⟩
        · refine im_ls 64 rfl (by decide) rfl (by decide) rfl ?_
          refine im_g 5 (y := (73, _, _, _)) rfl ⟨(by omega), trivial⟩ ?_
          refine im_r rfl rfl trivial rfl ?_
          refine ⟨congrArg (fun z => some (Sum.inl z)) ?_, rfl⟩
          unfold cw_dr
          rw [if_neg (by omega), if_neg (by omega), if_pos hpp]
          rfl
        · refine im_ls 74 rfl (by decide) rfl (by decide) rfl ?_
          refine im_g 5 (y := (83, _, _, _)) rfl ⟨(by omega), trivial⟩ ?_
          refine im_r rfl rfl trivial rfl ?_
          refine ⟨congrArg (fun z => some (Sum.inl z)) ?_, rfl⟩
          unfold cw_dr
          rw [if_neg (by omega), if_neg (by omega), if_pos hpp]
          rfl
        · have e9 : Op.lookupswitch.offset [((0 : Int), (28 : Int)), (1, 38)] 48 what = 48 := by
            show (if (0 : Int) = what then (28 : Int) else if (1 : Int) = what then 38 else 48) = 48
            rw [if_neg h0, if_neg h1]
          refine im_ls 84 rfl hw rfl (by show 0 ≤ ((36 : Nat) : Int) + Op.lookupswitch.offset [((0 : Int), (28 : Int)), (1, 38)] 48 what; rw [e9]; decide) (by show (((36 : Nat) : Int) + Op.lookupswitch.offset [((0 : Int), (28 : Int)), (1, 38)] 48 what).toNat = 84; rw [e9]; rfl) ?_
          refine im_g 1 (y := (85, _, _, _)) rfl trivial ?_
          refine im_r rfl rfl trivial rfl ?_
          refine ⟨congrArg (fun z => some (Sum.inl z)) ?_, rfl⟩
          unfold cw_dr
          rw [if_neg (by omega), if_neg (by omega), if_pos hpp]
          rw [if_neg (by omega), if_neg (by omega)]
      · have hpn : ¬ (0 ≤ p ∧ p < yv 0) := by
          intro cz
          rw [if_pos ⟨cz.1, cz.2, by omega⟩] at j3
          exact absurd j3 (by decide)
        clear j3
        refine im_g 1 (y := (34, _, _, _)) rfl trivial ?_
        refine im_r rfl rfl trivial rfl ?_
        refine ⟨congrArg (fun z => some (Sum.inl z)) ?_, rfl⟩
        unfold cw_dr
        rw [if_neg (by omega), if_neg (by omega), if_neg hpn]
    · refine im_g 2 (y := (18, _, _, _)) rfl trivial ?_
      refine im_cY rfl rfl (c_walking (v := yv) (R := yR) (g := yg) (by omega) hT hy) rfl hT (fun v1 w1 hq => ?_)
      obtain ⟨rfl, rfl⟩ := hq
      refine ⟨_, _, _, _, rfl, rfl, ?_⟩
      refine im_r rfl rfl trivial rfl ?_
      refine ⟨congrArg (fun z => some (Sum.inl z)) ?_, rfl⟩
      unfold cw_dr
      rw [if_neg (by omega), if_pos (by omega)]
  · refine im_g 1 (y := (8, _, _, _)) rfl trivial ?_
    refine im_r rfl rfl trivial rfl ?_
    refine ⟨congrArg (fun z => some (Sum.inl z)) ?_, rfl⟩
    unfold cw_dr
    rw [if_pos (by omega)]
set_option maxHeartbeats 8000000 in
theorem cw_terms (hd : 2 ≤ d) (hT : T.length < 1000) {P : cw_P} (hr1 : ro 1 = some (4, ab_tl)) (hr2 : ro 2 = some (4, ab_tm)) (h : LOK v R) (hday : R 7 0 ≤ 999) {what x : Int} (hw : im_ir what) (hx : im_ir x) : im_ct ro T d 83 [mr 0, .inl what, .inl x] (CW (xv, (v, R, g), ik, (yv, yR, yg), (f, k, rw_), (cv, cb, cs, cwd), U, P, W, fr, I0, I1)) (fun r w => (¬ ((0 ≤ what ∧ what < 4) ∧ te_lo what ≤ x ∧ x ≤ te_hi what) → r = some (.inl (-1)) ∧ w = CW ((pl_U xv 12 (if (-1) < 0 then (-1) else 0)), (v, R, g), ik, (yv, yR, yg), (f, k, rw_), (cv, cb, cs, cwd), U, P, W, (cw_fr (-1) fr), I0, I1)) ∧ (((0 ≤ what ∧ what < 4) ∧ te_lo what ≤ x ∧ x ≤ te_hi what) → r = some (.inl (R 7 what)) ∧ w = CW ((pl_U xv 12 (if (R 7 what) < 0 then (R 7 what) else 0)), (v, (pl_U R 7 (im_up (R 7) what x)), g), ik, (yv, yR, yg), (f, 0, rw_), (cv, cb, cs, cwd), U, P, W, (cw_fr (R 7 what) fr), I0, I1))) := by
  obtain ⟨d, rfl⟩ : ∃ e, d = e + 1 := ⟨d - 1, by omega⟩
  have hteb := te_b what
  refine im_ct_of (own := 8) (ret := (some .int)) (code := ab_k_X8_terms) (nL := 4) (L0 := [some (mr 0), some (.inl what), some (.inl x), none]) (n := 95) rfl rfl rfl rfl rfl rfl rfl rfl rfl ?_
  refine im_g 1 (y := (1, _, _, _)) rfl trivial ?_
  refine im_b rfl rfl ⟨(by omega), trivial⟩ (fun j1 => ?_) (fun j1 => ?_)
  · refine im_g 2 (y := (32, _, _, _)) rfl trivial ?_
    refine im_eqs (y := (32, _, _, CW (xv, (v, R, g), ik, (yv, yR, yg), (f, k, rw_), (cv, cb, cs, cwd), U, P, W, fr, I0, I1))) rfl ?_
    refine im_cX rfl rfl (cw_settle (x := (-1)) (by omega) hT (by decide)) rfl hT (fun v1 w1 hq => ?_)
    obtain ⟨rfl, rfl⟩ := hq
    refine ⟨((pl_U xv 12 (if (-1) < 0 then (-1) else 0)), (v, R, g), ik, (yv, yR, yg), (f, k, rw_), (cv, cb, cs, cwd), U, P, W, (cw_fr (-1) fr), I0, I1), rfl, rfl, ?_⟩
    refine im_r rfl rfl trivial rfl ?_
    first | (exact ⟨fun _ => ⟨rfl, rfl⟩, fun hz => (by omega)⟩) | (exact ⟨fun hz => (by omega), fun _ => ⟨rfl, rfl⟩⟩)
  · refine im_g 1 (y := (5, _, _, _)) rfl trivial ?_
    refine im_gs rfl rfl ?_
    refine im_ral (m := 4) (f := ab_tm) rfl (by decide) hr2 (by show (95 : Nat) < 1000; decide) hT ?_
    refine im_b rfl rfl ⟨(by omega), (by omega), trivial⟩ (fun j2 => ?_) (fun j2 => ?_)
    · refine im_g 2 (y := (32, _, _, _)) rfl trivial ?_
      refine im_eqs (y := (32, _, _, CW (xv, (v, R, g), ik, (yv, yR, yg), (f, k, rw_), (cv, cb, cs, cwd), U, P, W, fr, I0, I1))) rfl ?_
      refine im_cX rfl rfl (cw_settle (x := (-1)) (by omega) hT (by decide)) rfl hT (fun v1 w1 hq => ?_)
      obtain ⟨rfl, rfl⟩ := hq
      refine ⟨((pl_U xv 12 (if (-1) < 0 then (-1) else 0)), (v, R, g), ik, (yv, yR, yg), (f, k, rw_), (cv, cb, cs, cwd), U, P, W, (cw_fr (-1) fr), I0, I1), rfl, rfl, ?_⟩
      refine im_r rfl rfl trivial rfl ?_
      first | (exact ⟨fun _ => ⟨rfl, rfl⟩, fun hz => (by omega)⟩) | (exact ⟨fun hz => (by omega), fun _ => ⟨rfl, rfl⟩⟩)
    · refine im_g 1 (y := (13, _, _, _)) rfl trivial ?_
      refine im_gs rfl rfl ?_
      refine im_g 1 (y := (17, _, _, _)) rfl trivial ?_
      refine im_rai (m := 4) (f := ab_tl) rfl (by decide) hr1 (by show (95 : Nat) < 1000; decide) hT (by omega) (te_lo_ok (by omega)) ?_
      refine im_b rfl rfl ⟨(by omega), (by omega), trivial⟩ (fun j3 => ?_) (fun j3 => ?_)
      · refine im_g 2 (y := (32, _, _, _)) rfl trivial ?_
        refine im_eqs (y := (32, _, _, CW (xv, (v, R, g), ik, (yv, yR, yg), (f, k, rw_), (cv, cb, cs, cwd), U, P, W, fr, I0, I1))) rfl ?_
        refine im_cX rfl rfl (cw_settle (x := (-1)) (by omega) hT (by decide)) rfl hT (fun v1 w1 hq => ?_)
        obtain ⟨rfl, rfl⟩ := hq
        refine ⟨((pl_U xv 12 (if (-1) < 0 then (-1) else 0)), (v, R, g), ik, (yv, yR, yg), (f, k, rw_), (cv, cb, cs, cwd), U, P, W, (cw_fr (-1) fr), I0, I1), rfl, rfl, ?_⟩
        refine im_r rfl rfl trivial rfl ?_
        first | (exact ⟨fun _ => ⟨rfl, rfl⟩, fun hz => (by omega)⟩) | (exact ⟨fun hz => (by omega), fun _ => ⟨rfl, rfl⟩⟩)
      · refine im_g 1 (y := (22, _, _, _)) rfl trivial ?_
        refine im_gs rfl rfl ?_
        refine im_g 1 (y := (26, _, _, _)) rfl trivial ?_
        refine im_rai (m := 4) (f := ab_tm) rfl (by decide) hr2 (by show (95 : Nat) < 1000; decide) hT (by omega) (te_hi_ok (by omega)) ?_
        refine im_b rfl rfl ⟨(by omega), (by omega), trivial⟩ (fun j4 => ?_) (fun j4 => ?_)
        · have hbd : -6 ≤ R 7 what ∧ R 7 what ≤ 2000000 := by
            have hk : what = 0 ∨ what = 1 ∨ what = 2 ∨ what = 3 := by omega
            have htm := lk_trm h
            rcases hk with rfl | rfl | rfl | rfl <;> omega
          refine im_g 14 (y := (60, _, _, _)) rfl ⟨(by omega), (by omega), trivial⟩ ?_
          refine im_call [27,28] rfl rfl (c_clear (f := f) (k := k) (rw := rw_) (by omega) hT) rfl rfl rfl (by decide) rfl (by decide) hT (fun v1 w1 hq => ?_)
          obtain ⟨rfl, rfl⟩ := hq
          refine ⟨_, _, CW (xv, (v, (pl_U R 7 (im_up (R 7) what x)), g), ik, (yv, yR, yg), (f, 0, rw_), (cv, cb, cs, cwd), U, P, W, fr, I0, I1), rfl, rfl, rfl, ?_⟩
          refine im_g 2 (y := (65, _, _, _)) rfl trivial ?_
          refine im_eqs (y := (65, _, _, CW (xv, (v, (pl_U R 7 (im_up (R 7) what x)), g), ik, (yv, yR, yg), (f, 0, rw_), (cv, cb, cs, cwd), U, P, W, fr, I0, I1))) rfl ?_
          refine im_cX rfl rfl (cw_settle (x := (R 7 what)) (by omega) hT hbd) rfl hT (fun v1 w1 hq => ?_)
          obtain ⟨rfl, rfl⟩ := hq
          refine ⟨((pl_U xv 12 (if (R 7 what) < 0 then (R 7 what) else 0)), (v, (pl_U R 7 (im_up (R 7) what x)), g), ik, (yv, yR, yg), (f, 0, rw_), (cv, cb, cs, cwd), U, P, W, (cw_fr (R 7 what) fr), I0, I1), rfl, rfl, ?_⟩
          refine im_r rfl rfl trivial rfl ?_
          first | (exact ⟨fun _ => ⟨rfl, rfl⟩, fun hz => (by omega)⟩) | (exact ⟨fun hz => (by omega), fun _ => ⟨rfl, rfl⟩⟩)
        · refine im_g 2 (y := (32, _, _, _)) rfl trivial ?_
          refine im_eqs (y := (32, _, _, CW (xv, (v, R, g), ik, (yv, yR, yg), (f, k, rw_), (cv, cb, cs, cwd), U, P, W, fr, I0, I1))) rfl ?_
          refine im_cX rfl rfl (cw_settle (x := (-1)) (by omega) hT (by decide)) rfl hT (fun v1 w1 hq => ?_)
          obtain ⟨rfl, rfl⟩ := hq
          refine ⟨((pl_U xv 12 (if (-1) < 0 then (-1) else 0)), (v, R, g), ik, (yv, yR, yg), (f, k, rw_), (cv, cb, cs, cwd), U, P, W, (cw_fr (-1) fr), I0, I1), rfl, rfl, ?_⟩
          refine im_r rfl rfl trivial rfl ?_
          first | (exact ⟨fun _ => ⟨rfl, rfl⟩, fun hz => (by omega)⟩) | (exact ⟨fun hz => (by omega), fun _ => ⟨rfl, rfl⟩⟩)
end Ci
