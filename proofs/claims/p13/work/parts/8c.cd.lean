/-! the class's calls, second part -/
/-- a group told of -/
def cw_grp (n what : Int) (v : Nat → Int) (R : Nat → Int → Int) : Int := if 0 ≤ n ∧ n < v 1 then (if what = 0 then R 4 n else if what = 1 then R 5 n else if what = 2 then R 6 n else -1) else -1
section Cd
variable {ro : ab_R} {T : List im_T} {d : Nat} {xv : Nat → Int} {v : Nat → Int} {R : Nat → Int → Int} {g : Int → Option Nat} {ik : Int → Int} {y : cw_L} {f k : Int} {rw_ : Int → Int} {cv : Nat → Int} {cb : Int} {cs cwd : Int → Int} {U : cw_U} {P : cw_P} {W : cw_R} {fr : Int → Int} {I0 I1 : cw_L}
set_option maxHeartbeats 8000000 in
theorem cw_reckon (hd : 8 ≤ d) (hT : T.length < 1000) {lw : Option im_T} (h : LOK v R) (hday : R 7 0 ≤ 100000) (hl : LWR v g T lw) (hcb : cb = 0 ∨ cb = 1) (hcs : SOK cs) (hcwd : WOK cwd) (hf : 0 ≤ f ∧ f ≤ 16) (hk : 0 ≤ k ∧ k ≤ 16) {p : Int} (ha : im_ir p) : im_ct ro T d 93 [mr 0, .inl p] (CW (xv, (v, R, g), ik, y, (f, k, rw_), (cv, cb, cs, cwd), U, P, W, fr, I0, I1)) (fun r w => r = some (.inl (pl_act lw 0 p 0 0 v R).1) ∧ ∃ cv1 cb1 cs1 cwd1, (cb1 = 0 ∨ cb1 = 1) ∧ SOK cs1 ∧ WOK cwd1 ∧ ((pl_act lw 0 p 0 0 v R).1 < 0 → w = CW ((pl_U xv 12 (if (pl_act lw 0 p 0 0 v R).1 < 0 then (pl_act lw 0 p 0 0 v R).1 else 0)), ((pl_act lw 0 p 0 0 v R).2.1, (pl_act lw 0 p 0 0 v R).2.2, g), ik, y, (f, k, pt_note (pt_at f k) 0 v R rw_), (cv1, cb1, cs1, cwd1), U, P, W, (cw_fr (pl_act lw 0 p 0 0 v R).1 fr), I0, I1)) ∧ (0 ≤ (pl_act lw 0 p 0 0 v R).1 → w = CW ((pl_U xv 12 (if (pl_act lw 0 p 0 0 v R).1 < 0 then (pl_act lw 0 p 0 0 v R).1 else 0)), ((pl_act lw 0 p 0 0 v R).2.1, (pl_act lw 0 p 0 0 v R).2.2, g), ik, y, ((pt_keep f k).1, (pt_keep f k).2, pt_note (pt_at f k) 0 v R rw_), (cv1, cb1, cs1, cwd1), U, P, W, (cw_fr (pl_act lw 0 p 0 0 v R).1 fr), I0, I1))) := by
  obtain ⟨d, rfl⟩ : ∃ e, d = e + 1 := ⟨d - 1, by omega⟩
  refine im_ct_of (own := 8) (ret := (some .int)) (code := ab_k_X8_reckon) (nL := 2) (L0 := [some (mr 0), some (.inl p)]) (n := 95) rfl rfl rfl rfl rfl rfl rfl rfl rfl ?_
  refine im_g 5 (y := (5, _, _, _)) rfl trivial ?_
  refine im_eqs (y := (5, _, _, CW (xv, (v, R, g), ik, y, (f, k, rw_), (cv, cb, cs, cwd), U, P, W, fr, I0, I1))) rfl ?_
  refine im_cX rfl rfl (cw_act (lw := lw) (kind := 0) (a := p) (b := 0) (n := 0) (by omega) hT h hday hl hcb hcs hcwd hf hk (by decide) ha (by decide) (by decide)) rfl hT (fun v1 w1 hq => ?_)
  obtain ⟨rfl, cv1, cb1, cs1, cwd1, hb1, hs1, hw1, hn1, hp1⟩ := hq
  by_cases hz : (pl_act lw 0 p 0 0 v R).1 < 0
  · obtain rfl := hn1 hz
    refine ⟨_, rfl, rfl, ?_⟩
    refine im_r rfl rfl trivial rfl ?_
    exact ⟨rfl, cv1, cb1, cs1, cwd1, hb1, hs1, hw1, fun _ => rfl, fun hz2 => (by omega)⟩
  · obtain rfl := hp1 (by omega)
    refine ⟨_, rfl, rfl, ?_⟩
    refine im_r rfl rfl trivial rfl ?_
    exact ⟨rfl, cv1, cb1, cs1, cwd1, hb1, hs1, hw1, fun hz2 => (by omega), fun _ => rfl⟩
set_option maxHeartbeats 8000000 in
theorem cw_pass (hd : 8 ≤ d) (hT : T.length < 1000) {lw : Option im_T} (h : LOK v R) (hday : R 7 0 ≤ 100000) (hl : LWR v g T lw) (hcb : cb = 0 ∨ cb = 1) (hcs : SOK cs) (hcwd : WOK cwd) (hf : 0 ≤ f ∧ f ≤ 16) (hk : 0 ≤ k ∧ k ≤ 16) : im_ct ro T d 94 [mr 0] (CW (xv, (v, R, g), ik, y, (f, k, rw_), (cv, cb, cs, cwd), U, P, W, fr, I0, I1)) (fun r w => r = some (.inl (pl_act lw 1 0 0 0 v R).1) ∧ ∃ cv1 cb1 cs1 cwd1, (cb1 = 0 ∨ cb1 = 1) ∧ SOK cs1 ∧ WOK cwd1 ∧ ((pl_act lw 1 0 0 0 v R).1 < 0 → w = CW ((pl_U xv 12 (if (pl_act lw 1 0 0 0 v R).1 < 0 then (pl_act lw 1 0 0 0 v R).1 else 0)), ((pl_act lw 1 0 0 0 v R).2.1, (pl_act lw 1 0 0 0 v R).2.2, g), ik, y, (f, k, pt_note (pt_at f k) 1 v R rw_), (cv1, cb1, cs1, cwd1), U, P, W, (cw_fr (pl_act lw 1 0 0 0 v R).1 fr), I0, I1)) ∧ (0 ≤ (pl_act lw 1 0 0 0 v R).1 → w = CW ((pl_U xv 12 (if (pl_act lw 1 0 0 0 v R).1 < 0 then (pl_act lw 1 0 0 0 v R).1 else 0)), ((pl_act lw 1 0 0 0 v R).2.1, (pl_act lw 1 0 0 0 v R).2.2, g), ik, y, ((pt_keep f k).1, (pt_keep f k).2, pt_note (pt_at f k) 1 v R rw_), (cv1, cb1, cs1, cwd1), U, P, W, (cw_fr (pl_act lw 1 0 0 0 v R).1 fr), I0, I1))) := by
  obtain ⟨d, rfl⟩ : ∃ e, d = e + 1 := ⟨d - 1, by omega⟩
  refine im_ct_of (own := 8) (ret := (some .int)) (code := ab_k_X8_pass) (nL := 1) (L0 := [some (mr 0)]) (n := 95) rfl rfl rfl rfl rfl rfl rfl rfl rfl ?_
  refine im_g 5 (y := (5, _, _, _)) rfl trivial ?_
  refine im_eqs (y := (5, _, _, CW (xv, (v, R, g), ik, y, (f, k, rw_), (cv, cb, cs, cwd), U, P, W, fr, I0, I1))) rfl ?_
  refine im_cX rfl rfl (cw_act (lw := lw) (kind := 1) (a := 0) (b := 0) (n := 0) (by omega) hT h hday hl hcb hcs hcwd hf hk (by decide) (by decide) (by decide) (by decide)) rfl hT (fun v1 w1 hq => ?_)
  obtain ⟨rfl, cv1, cb1, cs1, cwd1, hb1, hs1, hw1, hn1, hp1⟩ := hq
  by_cases hz : (pl_act lw 1 0 0 0 v R).1 < 0
  · obtain rfl := hn1 hz
    refine ⟨_, rfl, rfl, ?_⟩
    refine im_r rfl rfl trivial rfl ?_
    exact ⟨rfl, cv1, cb1, cs1, cwd1, hb1, hs1, hw1, fun _ => rfl, fun hz2 => (by omega)⟩
  · obtain rfl := hp1 (by omega)
    refine ⟨_, rfl, rfl, ?_⟩
    refine im_r rfl rfl trivial rfl ?_
    exact ⟨rfl, cv1, cb1, cs1, cwd1, hb1, hs1, hw1, fun hz2 => (by omega), fun _ => rfl⟩
set_option maxHeartbeats 8000000 in
theorem cw_lend (hd : 8 ≤ d) (hT : T.length < 1000) {lw : Option im_T} (h : LOK v R) (hday : R 7 0 ≤ 100000) (hl : LWR v g T lw) (hcb : cb = 0 ∨ cb = 1) (hcs : SOK cs) (hcwd : WOK cwd) (hf : 0 ≤ f ∧ f ≤ 16) (hk : 0 ≤ k ∧ k ≤ 16) {a b n : Int} (ha : im_ir a) (hb : im_ir b) (hn : im_ir n) : im_ct ro T d 95 [mr 0, .inl a, .inl b, .inl n] (CW (xv, (v, R, g), ik, y, (f, k, rw_), (cv, cb, cs, cwd), U, P, W, fr, I0, I1)) (fun r w => r = some (.inl (pl_act lw 2 a b n v R).1) ∧ ∃ cv1 cb1 cs1 cwd1, (cb1 = 0 ∨ cb1 = 1) ∧ SOK cs1 ∧ WOK cwd1 ∧ ((pl_act lw 2 a b n v R).1 < 0 → w = CW ((pl_U xv 12 (if (pl_act lw 2 a b n v R).1 < 0 then (pl_act lw 2 a b n v R).1 else 0)), ((pl_act lw 2 a b n v R).2.1, (pl_act lw 2 a b n v R).2.2, g), ik, y, (f, k, pt_note (pt_at f k) 2 v R rw_), (cv1, cb1, cs1, cwd1), U, P, W, (cw_fr (pl_act lw 2 a b n v R).1 fr), I0, I1)) ∧ (0 ≤ (pl_act lw 2 a b n v R).1 → w = CW ((pl_U xv 12 (if (pl_act lw 2 a b n v R).1 < 0 then (pl_act lw 2 a b n v R).1 else 0)), ((pl_act lw 2 a b n v R).2.1, (pl_act lw 2 a b n v R).2.2, g), ik, y, ((pt_keep f k).1, (pt_keep f k).2, pt_note (pt_at f k) 2 v R rw_), (cv1, cb1, cs1, cwd1), U, P, W, (cw_fr (pl_act lw 2 a b n v R).1 fr), I0, I1))) := by
  obtain ⟨d, rfl⟩ : ∃ e, d = e + 1 := ⟨d - 1, by omega⟩
  refine im_ct_of (own := 8) (ret := (some .int)) (code := ab_k_X8_lend) (nL := 4) (L0 := [some (mr 0), some (.inl a), some (.inl b), some (.inl n)]) (n := 95) rfl rfl rfl rfl rfl rfl rfl rfl rfl ?_
  refine im_g 5 (y := (5, _, _, _)) rfl trivial ?_
  refine im_eqs (y := (5, _, _, CW (xv, (v, R, g), ik, y, (f, k, rw_), (cv, cb, cs, cwd), U, P, W, fr, I0, I1))) rfl ?_
  refine im_cX rfl rfl (cw_act (lw := lw) (kind := 2) (a := a) (b := b) (n := n) (by omega) hT h hday hl hcb hcs hcwd hf hk (by decide) ha hb hn) rfl hT (fun v1 w1 hq => ?_)
  obtain ⟨rfl, cv1, cb1, cs1, cwd1, hb1, hs1, hw1, hn1, hp1⟩ := hq
  by_cases hz : (pl_act lw 2 a b n v R).1 < 0
  · obtain rfl := hn1 hz
    refine ⟨_, rfl, rfl, ?_⟩
    refine im_r rfl rfl trivial rfl ?_
    exact ⟨rfl, cv1, cb1, cs1, cwd1, hb1, hs1, hw1, fun _ => rfl, fun hz2 => (by omega)⟩
  · obtain rfl := hp1 (by omega)
    refine ⟨_, rfl, rfl, ?_⟩
    refine im_r rfl rfl trivial rfl ?_
    exact ⟨rfl, cv1, cb1, cs1, cwd1, hb1, hs1, hw1, fun hz2 => (by omega), fun _ => rfl⟩
set_option maxHeartbeats 8000000 in
theorem cw_grow (hd : 8 ≤ d) (hT : T.length < 1000) {lw : Option im_T} (h : LOK v R) (hday : R 7 0 ≤ 100000) (hl : LWR v g T lw) (hcb : cb = 0 ∨ cb = 1) (hcs : SOK cs) (hcwd : WOK cwd) (hf : 0 ≤ f ∧ f ≤ 16) (hk : 0 ≤ k ∧ k ≤ 16) {a b : Int} (ha : im_ir a) (hb : im_ir b) : im_ct ro T d 96 [mr 0, .inl a, .inl b] (CW (xv, (v, R, g), ik, y, (f, k, rw_), (cv, cb, cs, cwd), U, P, W, fr, I0, I1)) (fun r w => r = some (.inl (pl_act lw 3 a b 0 v R).1) ∧ ∃ cv1 cb1 cs1 cwd1, (cb1 = 0 ∨ cb1 = 1) ∧ SOK cs1 ∧ WOK cwd1 ∧ ((pl_act lw 3 a b 0 v R).1 < 0 → w = CW ((pl_U xv 12 (if (pl_act lw 3 a b 0 v R).1 < 0 then (pl_act lw 3 a b 0 v R).1 else 0)), ((pl_act lw 3 a b 0 v R).2.1, (pl_act lw 3 a b 0 v R).2.2, g), ik, y, (f, k, pt_note (pt_at f k) 3 v R rw_), (cv1, cb1, cs1, cwd1), U, P, W, (cw_fr (pl_act lw 3 a b 0 v R).1 fr), I0, I1)) ∧ (0 ≤ (pl_act lw 3 a b 0 v R).1 → w = CW ((pl_U xv 12 (if (pl_act lw 3 a b 0 v R).1 < 0 then (pl_act lw 3 a b 0 v R).1 else 0)), ((pl_act lw 3 a b 0 v R).2.1, (pl_act lw 3 a b 0 v R).2.2, g), ik, y, ((pt_keep f k).1, (pt_keep f k).2, pt_note (pt_at f k) 3 v R rw_), (cv1, cb1, cs1, cwd1), U, P, W, (cw_fr (pl_act lw 3 a b 0 v R).1 fr), I0, I1))) := by
  obtain ⟨d, rfl⟩ : ∃ e, d = e + 1 := ⟨d - 1, by omega⟩
  refine im_ct_of (own := 8) (ret := (some .int)) (code := ab_k_X8_grow) (nL := 3) (L0 := [some (mr 0), some (.inl a), some (.inl b)]) (n := 95) rfl rfl rfl rfl rfl rfl rfl rfl rfl ?_
  refine im_g 5 (y := (5, _, _, _)) rfl trivial ?_
  refine im_eqs (y := (5, _, _, CW (xv, (v, R, g), ik, y, (f, k, rw_), (cv, cb, cs, cwd), U, P, W, fr, I0, I1))) rfl ?_
  refine im_cX rfl rfl (cw_act (lw := lw) (kind := 3) (a := a) (b := b) (n := 0) (by omega) hT h hday hl hcb hcs hcwd hf hk (by decide) ha hb (by decide)) rfl hT (fun v1 w1 hq => ?_)
  obtain ⟨rfl, cv1, cb1, cs1, cwd1, hb1, hs1, hw1, hn1, hp1⟩ := hq
  by_cases hz : (pl_act lw 3 a b 0 v R).1 < 0
  · obtain rfl := hn1 hz
    refine ⟨_, rfl, rfl, ?_⟩
    refine im_r rfl rfl trivial rfl ?_
    exact ⟨rfl, cv1, cb1, cs1, cwd1, hb1, hs1, hw1, fun _ => rfl, fun hz2 => (by omega)⟩
  · obtain rfl := hp1 (by omega)
    refine ⟨_, rfl, rfl, ?_⟩
    refine im_r rfl rfl trivial rfl ?_
    exact ⟨rfl, cv1, cb1, cs1, cwd1, hb1, hs1, hw1, fun hz2 => (by omega), fun _ => rfl⟩
set_option maxHeartbeats 8000000 in
theorem cw_undo (hd : 3 ≤ d) (hT : T.length < 1000) (hf : 0 ≤ f ∧ f ≤ 16) (hk : 0 ≤ k ∧ k ≤ 16) (hu : 0 < k → 0 ≤ (rw_ (pt_at f (k - 1) + 10 + 10 + 16 + 16 + 16 + 3)) ∧ (rw_ (pt_at f (k - 1) + 10 + 10 + 16 + 16 + 16 + 3)) ≤ 3) : im_ct ro T d 97 [mr 0] (CW (xv, (v, R, g), ik, y, (f, k, rw_), (cv, cb, cs, cwd), U, P, W, fr, I0, I1)) (fun r w => (k ≤ 0 → r = some (.inl (-3)) ∧ w = CW ((pl_U xv 12 (if (-3) < 0 then (-3) else 0)), (v, R, g), ik, y, (f, k, rw_), (cv, cb, cs, cwd), U, P, W, (cw_fr (-3) fr), I0, I1)) ∧ (0 < k → r = some (.inl (rw_ (pt_at f (k - 1) + 10 + 10 + 16 + 16 + 16 + 3))) ∧ w = CW ((pl_U xv 12 (if (rw_ (pt_at f (k - 1) + 10 + 10 + 16 + 16 + 16 + 3)) < 0 then (rw_ (pt_at f (k - 1) + 10 + 10 + 16 + 16 + 16 + 3)) else 0)), (pt_backv (pt_at f (k - 1)) rw_ v, pt_backR (pt_at f (k - 1)) rw_ R, g), ik, y, (f, k - 1, rw_), (cv, cb, cs, cwd), U, P, W, (cw_fr (rw_ (pt_at f (k - 1) + 10 + 10 + 16 + 16 + 16 + 3)) fr), I0, I1))) := by
  obtain ⟨d, rfl⟩ : ∃ e, d = e + 1 := ⟨d - 1, by omega⟩
  refine im_ct_of (own := 8) (ret := (some .int)) (code := ab_k_X8_undo) (nL := 2) (L0 := [some (mr 0), none]) (n := 95) rfl rfl rfl rfl rfl rfl rfl rfl rfl ?_
  refine im_g 4 (y := (8, _, _, _)) rfl trivial ?_
  refine im_call [27,28,1,2,3,4,5,6,7,8,9,10,11,12] rfl rfl (c_takeBack (f := f) (k := k) (rw := rw_) (v := v) (R := R) (g := g) (by omega) hT hf hk) rfl rfl rfl (by decide) rfl (by decide) hT (fun v1 w1 hq => ?_)
  by_cases hz : k ≤ 0
  · obtain ⟨rfl, rfl⟩ := hq.1 hz
    refine ⟨_, _, CW (xv, (v, R, g), ik, y, (f, k, rw_), (cv, cb, cs, cwd), U, P, W, fr, I0, I1), rfl, rfl, rfl, ?_⟩
    refine im_g 4 (y := (15, _, _, _)) rfl trivial ?_
    refine im_bF rfl rfl ⟨(by first | decide | omega), (by first | decide | omega), trivial⟩ (fun z => z rfl) ?_
    refine im_g 2 (y := (24, _, _, _)) rfl trivial ?_
    refine im_eqs (y := (24, _, _, CW (xv, (v, R, g), ik, y, (f, k, rw_), (cv, cb, cs, cwd), U, P, W, fr, I0, I1))) rfl ?_
    refine im_cX rfl rfl (cw_settle (x := (-3)) (by omega) hT (by decide)) rfl hT (fun v1 w1 hq => ?_)
    obtain ⟨rfl, rfl⟩ := hq
    refine ⟨((pl_U xv 12 (if (-3) < 0 then (-3) else 0)), (v, R, g), ik, y, (f, k, rw_), (cv, cb, cs, cwd), U, P, W, (cw_fr (-3) fr), I0, I1), rfl, rfl, ?_⟩
    refine im_r rfl rfl trivial rfl ?_
    first | (exact ⟨fun _ => ⟨rfl, rfl⟩, fun hz => (by omega)⟩) | (exact ⟨fun hz => (by omega), fun _ => ⟨rfl, rfl⟩⟩)
  · obtain ⟨rfl, rfl⟩ := hq.2 (by omega)
    refine ⟨_, _, CW (xv, (pt_backv (pt_at f (k - 1)) rw_ v, pt_backR (pt_at f (k - 1)) rw_ R, g), ik, y, (f, k - 1, rw_), (cv, cb, cs, cwd), U, P, W, fr, I0, I1), rfl, rfl, rfl, ?_⟩
    have hub := hu (by omega)
    refine im_g 4 (y := (15, _, _, _)) rfl trivial ?_
    refine im_bT rfl rfl ⟨(by first | decide | omega), (by first | decide | omega), trivial⟩ (by omega) ?_
    refine im_g 1 (y := (24, _, _, _)) rfl trivial ?_
    refine im_eqs (y := (24, _, _, CW (xv, (pt_backv (pt_at f (k - 1)) rw_ v, pt_backR (pt_at f (k - 1)) rw_ R, g), ik, y, (f, k - 1, rw_), (cv, cb, cs, cwd), U, P, W, fr, I0, I1))) rfl ?_
    refine im_cX rfl rfl (cw_settle (x := (rw_ (pt_at f (k - 1) + 10 + 10 + 16 + 16 + 16 + 3))) (by omega) hT (by omega)) rfl hT (fun v1 w1 hq => ?_)
    obtain ⟨rfl, rfl⟩ := hq
    refine ⟨((pl_U xv 12 (if (rw_ (pt_at f (k - 1) + 10 + 10 + 16 + 16 + 16 + 3)) < 0 then (rw_ (pt_at f (k - 1) + 10 + 10 + 16 + 16 + 16 + 3)) else 0)), (pt_backv (pt_at f (k - 1)) rw_ v, pt_backR (pt_at f (k - 1)) rw_ R, g), ik, y, (f, k - 1, rw_), (cv, cb, cs, cwd), U, P, W, (cw_fr (rw_ (pt_at f (k - 1) + 10 + 10 + 16 + 16 + 16 + 3)) fr), I0, I1), rfl, rfl, ?_⟩
    refine im_r rfl rfl trivial rfl ?_
    first | (exact ⟨fun _ => ⟨rfl, rfl⟩, fun hz => (by omega)⟩) | (exact ⟨fun hz => (by omega), fun _ => ⟨rfl, rfl⟩⟩)
set_option maxHeartbeats 8000000 in
theorem cw_image (hd : 3 ≤ d) (hT : T.length < 1000) (hg : GV g T) {e : Int} (he : im_ir e) : im_ct ro T d 111 [mr 0, .inl e] (CW (xv, (v, R, g), ik, y, (f, k, rw_), (cv, cb, cs, cwd), U, P, W, fr, I0, I1)) (fun r w => (¬ (e = 0 ∨ e = 1) → r = some (.inl (-1)) ∧ w = CW ((pl_U xv 12 (if (-1) < 0 then (-1) else 0)), (v, R, g), ik, y, (f, k, rw_), (cv, cb, cs, cwd), U, P, W, (cw_fr (-1) fr), I0, I1)) ∧ (e = 0 → r = some (.inl 0) ∧ w = CW ((pl_U xv 12 (if 0 < 0 then 0 else 0)), (v, R, g), (im_up ik 0 1), y, (f, k, rw_), (cv, cb, cs, cwd), U, P, W, (cw_fr 0 fr), (pl_v I0.1 v, pl_R I0.2.1 R, pl_g I0.2.2 g 6), I1)) ∧ (e = 1 → r = some (.inl 0) ∧ w = CW ((pl_U xv 12 (if 0 < 0 then 0 else 0)), (v, R, g), (im_up ik 1 1), y, (f, k, rw_), (cv, cb, cs, cwd), U, P, W, (cw_fr 0 fr), I0, (pl_v I1.1 v, pl_R I1.2.1 R, pl_g I1.2.2 g 6)))) := by
  obtain ⟨d, rfl⟩ : ∃ e, d = e + 1 := ⟨d - 1, by omega⟩
  have hk : e = 0 ∨ e = 1 ∨ e < 0 ∨ 1 < e := by omega
  rcases hk with rfl | rfl | hk | hk
  · refine im_ct_of (own := 8) (ret := (some .int)) (code := ab_k_X8_image) (nL := 2) (L0 := [some (mr 0), some (.inl 0)]) (n := 95) rfl rfl rfl rfl rfl rfl rfl rfl rfl ?_
    refine im_g 1 (y := (1, _, _, _)) rfl trivial ?_
    refine im_bF rfl rfl ⟨(by first | decide | (constructor <;> omega)), trivial⟩ (by omega) ?_
    refine im_g 4 (y := (10, _, _, _)) rfl trivial ?_
    refine im_bT rfl rfl ⟨(by first | decide | (constructor <;> omega)), (by first | decide | (constructor <;> omega)), trivial⟩ (by decide) ?_
    refine im_g 6 (y := (29, _, _, _)) rfl ⟨(by omega), trivial⟩ ?_
    refine im_cAL rfl rfl (c_takeFrom (v := I0.1) (v2 := v) (R := I0.2.1) (R2 := R) (g := I0.2.2) (g2 := g) (by omega) hT (fun t hq => hg _ t hq)) rfl hT (fun v1 w1 hq => ?_)
    obtain ⟨rfl, rfl⟩ := hq
    refine ⟨_, _, _, _, _, _, _, rfl, rfl, ?_⟩
    refine im_g 7 (y := (41, _, _, _)) rfl ⟨(by omega), (by omega), trivial⟩ ?_
    refine im_eqs (y := (41, _, _, CW (xv, (v, R, g), (im_up ik 0 1), y, (f, k, rw_), (cv, cb, cs, cwd), U, P, W, fr, (pl_v I0.1 v, pl_R I0.2.1 R, pl_g I0.2.2 g 6), I1))) rfl ?_
    refine im_cX rfl rfl (cw_settle (x := 0) (by omega) hT (by decide)) rfl hT (fun v1 w1 hq => ?_)
    obtain ⟨rfl, rfl⟩ := hq
    refine ⟨((pl_U xv 12 (if 0 < 0 then 0 else 0)), (v, R, g), (im_up ik 0 1), y, (f, k, rw_), (cv, cb, cs, cwd), U, P, W, (cw_fr 0 fr), (pl_v I0.1 v, pl_R I0.2.1 R, pl_g I0.2.2 g 6), I1), rfl, rfl, ?_⟩
    refine im_r rfl rfl trivial rfl ?_
    first | (exact ⟨fun _ => ⟨rfl, rfl⟩, fun hz => (by omega), fun hz => (by omega)⟩) | (exact ⟨fun hz => (by omega), fun _ => ⟨rfl, rfl⟩, fun hz => (by omega)⟩) | (exact ⟨fun hz => (by omega), fun hz => (by omega), fun _ => ⟨rfl, rfl⟩⟩)
  · refine im_ct_of (own := 8) (ret := (some .int)) (code := ab_k_X8_image) (nL := 2) (L0 := [some (mr 0), some (.inl 1)]) (n := 95) rfl rfl rfl rfl rfl rfl rfl rfl rfl ?_
    refine im_g 1 (y := (1, _, _, _)) rfl trivial ?_
    refine im_bF rfl rfl ⟨(by first | decide | (constructor <;> omega)), trivial⟩ (by omega) ?_
    refine im_g 4 (y := (10, _, _, _)) rfl trivial ?_
    refine im_bT rfl rfl ⟨(by first | decide | (constructor <;> omega)), (by first | decide | (constructor <;> omega)), trivial⟩ (by decide) ?_
    refine im_g 6 (y := (29, _, _, _)) rfl ⟨(by omega), trivial⟩ ?_
    refine im_cBL rfl rfl (c_takeFrom (v := I1.1) (v2 := v) (R := I1.2.1) (R2 := R) (g := I1.2.2) (g2 := g) (by omega) hT (fun t hq => hg _ t hq)) rfl hT (fun v1 w1 hq => ?_)
    obtain ⟨rfl, rfl⟩ := hq
    refine ⟨_, _, _, _, _, _, _, rfl, rfl, ?_⟩
    refine im_g 7 (y := (41, _, _, _)) rfl ⟨(by omega), (by omega), trivial⟩ ?_
    refine im_eqs (y := (41, _, _, CW (xv, (v, R, g), (im_up ik 1 1), y, (f, k, rw_), (cv, cb, cs, cwd), U, P, W, fr, I0, (pl_v I1.1 v, pl_R I1.2.1 R, pl_g I1.2.2 g 6)))) rfl ?_
    refine im_cX rfl rfl (cw_settle (x := 0) (by omega) hT (by decide)) rfl hT (fun v1 w1 hq => ?_)
    obtain ⟨rfl, rfl⟩ := hq
    refine ⟨((pl_U xv 12 (if 0 < 0 then 0 else 0)), (v, R, g), (im_up ik 1 1), y, (f, k, rw_), (cv, cb, cs, cwd), U, P, W, (cw_fr 0 fr), I0, (pl_v I1.1 v, pl_R I1.2.1 R, pl_g I1.2.2 g 6)), rfl, rfl, ?_⟩
    refine im_r rfl rfl trivial rfl ?_
    first | (exact ⟨fun _ => ⟨rfl, rfl⟩, fun hz => (by omega), fun hz => (by omega)⟩) | (exact ⟨fun hz => (by omega), fun _ => ⟨rfl, rfl⟩, fun hz => (by omega)⟩) | (exact ⟨fun hz => (by omega), fun hz => (by omega), fun _ => ⟨rfl, rfl⟩⟩)
  · refine im_ct_of (own := 8) (ret := (some .int)) (code := ab_k_X8_image) (nL := 2) (L0 := [some (mr 0), some (.inl e)]) (n := 95) rfl rfl rfl rfl rfl rfl rfl rfl rfl ?_
    refine im_g 1 (y := (1, _, _, _)) rfl trivial ?_
    refine im_bT rfl rfl ⟨(by first | decide | (constructor <;> omega)), trivial⟩ (by omega) ?_
    refine im_g 2 (y := (15, _, _, _)) rfl trivial ?_
    refine im_eqs (y := (15, _, _, CW (xv, (v, R, g), ik, y, (f, k, rw_), (cv, cb, cs, cwd), U, P, W, fr, I0, I1))) rfl ?_
    refine im_cX rfl rfl (cw_settle (x := (-1)) (by omega) hT (by decide)) rfl hT (fun v1 w1 hq => ?_)
    obtain ⟨rfl, rfl⟩ := hq
    refine ⟨((pl_U xv 12 (if (-1) < 0 then (-1) else 0)), (v, R, g), ik, y, (f, k, rw_), (cv, cb, cs, cwd), U, P, W, (cw_fr (-1) fr), I0, I1), rfl, rfl, ?_⟩
    refine im_r rfl rfl trivial rfl ?_
    first | (exact ⟨fun _ => ⟨rfl, rfl⟩, fun hz => (by omega), fun hz => (by omega)⟩) | (exact ⟨fun hz => (by omega), fun _ => ⟨rfl, rfl⟩, fun hz => (by omega)⟩) | (exact ⟨fun hz => (by omega), fun hz => (by omega), fun _ => ⟨rfl, rfl⟩⟩)
  · refine im_ct_of (own := 8) (ret := (some .int)) (code := ab_k_X8_image) (nL := 2) (L0 := [some (mr 0), some (.inl e)]) (n := 95) rfl rfl rfl rfl rfl rfl rfl rfl rfl ?_
    refine im_g 1 (y := (1, _, _, _)) rfl trivial ?_
    refine im_bF rfl rfl ⟨(by first | decide | (constructor <;> omega)), trivial⟩ (by omega) ?_
    refine im_g 4 (y := (10, _, _, _)) rfl trivial ?_
    refine im_bF rfl rfl ⟨(by first | decide | (constructor <;> omega)), (by first | decide | (constructor <;> omega)), trivial⟩ (by omega) ?_
    refine im_g 2 (y := (15, _, _, _)) rfl trivial ?_
    refine im_eqs (y := (15, _, _, CW (xv, (v, R, g), ik, y, (f, k, rw_), (cv, cb, cs, cwd), U, P, W, fr, I0, I1))) rfl ?_
    refine im_cX rfl rfl (cw_settle (x := (-1)) (by omega) hT (by decide)) rfl hT (fun v1 w1 hq => ?_)
    obtain ⟨rfl, rfl⟩ := hq
    refine ⟨((pl_U xv 12 (if (-1) < 0 then (-1) else 0)), (v, R, g), ik, y, (f, k, rw_), (cv, cb, cs, cwd), U, P, W, (cw_fr (-1) fr), I0, I1), rfl, rfl, ?_⟩
    refine im_r rfl rfl trivial rfl ?_
    first | (exact ⟨fun _ => ⟨rfl, rfl⟩, fun hz => (by omega), fun hz => (by omega)⟩) | (exact ⟨fun hz => (by omega), fun _ => ⟨rfl, rfl⟩, fun hz => (by omega)⟩) | (exact ⟨fun hz => (by omega), fun hz => (by omega), fun _ => ⟨rfl, rfl⟩⟩)
set_option maxHeartbeats 8000000 in
theorem cw_back (hd : 3 ≤ d) (hT : T.length < 1000) (hg0 : GV I0.2.2 T) (hg1 : GV I1.2.2 T) (hik : ∀ i, ik i = 0 ∨ ik i = 1) {e : Int} (he : im_ir e) : im_ct ro T d 112 [mr 0, .inl e] (CW (xv, (v, R, g), ik, y, (f, k, rw_), (cv, cb, cs, cwd), U, P, W, fr, I0, I1)) (fun r w => (¬ (e = 0 ∨ e = 1) → r = some (.inl (-1)) ∧ w = CW ((pl_U xv 12 (if (-1) < 0 then (-1) else 0)), (v, R, g), ik, y, (f, k, rw_), (cv, cb, cs, cwd), U, P, W, (cw_fr (-1) fr), I0, I1)) ∧ (((e = 0 ∨ e = 1) ∧ ik e = 0) → r = some (.inl (-2)) ∧ w = CW ((pl_U xv 12 (if (-2) < 0 then (-2) else 0)), (v, R, g), ik, y, (f, k, rw_), (cv, cb, cs, cwd), U, P, W, (cw_fr (-2) fr), I0, I1)) ∧ ((e = 0 ∧ ik 0 = 1) → r = some (.inl 0) ∧ w = CW ((pl_U xv 12 (if 0 < 0 then 0 else 0)), (pl_v v I0.1, pl_R R I0.2.1, pl_g g I0.2.2 6), ik, y, (f, 0, rw_), (cv, cb, cs, cwd), U, P, W, (cw_fr 0 fr), I0, I1)) ∧ ((e = 1 ∧ ik 1 = 1) → r = some (.inl 0) ∧ w = CW ((pl_U xv 12 (if 0 < 0 then 0 else 0)), (pl_v v I1.1, pl_R R I1.2.1, pl_g g I1.2.2 6), ik, y, (f, 0, rw_), (cv, cb, cs, cwd), U, P, W, (cw_fr 0 fr), I0, I1))) := by
  obtain ⟨d, rfl⟩ : ∃ e, d = e + 1 := ⟨d - 1, by omega⟩
  have hk : e = 0 ∨ e = 1 ∨ e < 0 ∨ 1 < e := by omega
  rcases hk with rfl | rfl | hk | hk
  · refine im_ct_of (own := 8) (ret := (some .int)) (code := ab_k_X8_back) (nL := 2) (L0 := [some (mr 0), some (.inl 0)]) (n := 95) rfl rfl rfl rfl rfl rfl rfl rfl rfl ?_
    have hk0 := hik 0
    refine im_g 1 (y := (1, _, _, _)) rfl trivial ?_
    refine im_bF rfl rfl ⟨(by first | decide | (constructor <;> omega)), trivial⟩ (by omega) ?_
    refine im_g 4 (y := (10, _, _, _)) rfl trivial ?_
    refine im_bT rfl rfl ⟨(by first | decide | (constructor <;> omega)), (by first | decide | (constructor <;> omega)), trivial⟩ (by decide) ?_
    refine im_g 4 (y := (25, _, _, _)) rfl ⟨(by omega), trivial⟩ ?_
    refine im_b rfl rfl ⟨(by first | omega | (rcases hik 0 with hz | hz <;> rw [hz] <;> decide)), trivial⟩ (fun j1 => ?_) (fun j1 => ?_)
    · refine im_g 6 (y := (45, _, _, _)) rfl ⟨(by omega), trivial⟩ ?_
      refine im_cLA rfl rfl (c_takeFrom (v := v) (v2 := I0.1) (R := R) (R2 := I0.2.1) (g := g) (g2 := I0.2.2) (by omega) hT (fun t hq => hg0 _ t hq)) rfl hT (fun v1 w1 hq => ?_)
      obtain ⟨rfl, rfl⟩ := hq
      refine ⟨_, _, _, _, _, _, _, rfl, rfl, ?_⟩
      refine im_g 2 (y := (52, _, _, _)) rfl trivial ?_
      refine im_cQ rfl rfl (c_clear (f := f) (k := k) (rw := rw_) (by omega) hT) rfl hT (fun v1 w1 hq => ?_)
      obtain ⟨rfl, rfl⟩ := hq
      refine ⟨_, _, _, _, rfl, rfl, ?_⟩
      refine im_g 2 (y := (57, _, _, _)) rfl trivial ?_
      refine im_eqs (y := (57, _, _, CW (xv, (pl_v v I0.1, pl_R R I0.2.1, pl_g g I0.2.2 6), ik, y, (f, 0, rw_), (cv, cb, cs, cwd), U, P, W, fr, I0, I1))) rfl ?_
      refine im_cX rfl rfl (cw_settle (x := 0) (by omega) hT (by decide)) rfl hT (fun v1 w1 hq => ?_)
      obtain ⟨rfl, rfl⟩ := hq
      refine ⟨((pl_U xv 12 (if 0 < 0 then 0 else 0)), (pl_v v I0.1, pl_R R I0.2.1, pl_g g I0.2.2 6), ik, y, (f, 0, rw_), (cv, cb, cs, cwd), U, P, W, (cw_fr 0 fr), I0, I1), rfl, rfl, ?_⟩
      refine im_r rfl rfl trivial rfl ?_
      first | (exact ⟨fun _ => ⟨rfl, rfl⟩, fun hz => (by omega), fun hz => (by omega), fun hz => (by omega)⟩) | (exact ⟨fun hz => (by omega), fun _ => ⟨rfl, rfl⟩, fun hz => (by omega), fun hz => (by omega)⟩) | (exact ⟨fun hz => (by omega), fun hz => (by omega), fun _ => ⟨rfl, rfl⟩, fun hz => (by omega)⟩) | (exact ⟨fun hz => (by omega), fun hz => (by omega), fun hz => (by omega), fun _ => ⟨rfl, rfl⟩⟩)
    · refine im_g 2 (y := (31, _, _, _)) rfl trivial ?_
      refine im_eqs (y := (31, _, _, CW (xv, (v, R, g), ik, y, (f, k, rw_), (cv, cb, cs, cwd), U, P, W, fr, I0, I1))) rfl ?_
      refine im_cX rfl rfl (cw_settle (x := (-2)) (by omega) hT (by decide)) rfl hT (fun v1 w1 hq => ?_)
      obtain ⟨rfl, rfl⟩ := hq
      refine ⟨((pl_U xv 12 (if (-2) < 0 then (-2) else 0)), (v, R, g), ik, y, (f, k, rw_), (cv, cb, cs, cwd), U, P, W, (cw_fr (-2) fr), I0, I1), rfl, rfl, ?_⟩
      refine im_r rfl rfl trivial rfl ?_
      first | (exact ⟨fun _ => ⟨rfl, rfl⟩, fun hz => (by omega), fun hz => (by omega), fun hz => (by omega)⟩) | (exact ⟨fun hz => (by omega), fun _ => ⟨rfl, rfl⟩, fun hz => (by omega), fun hz => (by omega)⟩) | (exact ⟨fun hz => (by omega), fun hz => (by omega), fun _ => ⟨rfl, rfl⟩, fun hz => (by omega)⟩) | (exact ⟨fun hz => (by omega), fun hz => (by omega), fun hz => (by omega), fun _ => ⟨rfl, rfl⟩⟩)
  · refine im_ct_of (own := 8) (ret := (some .int)) (code := ab_k_X8_back) (nL := 2) (L0 := [some (mr 0), some (.inl 1)]) (n := 95) rfl rfl rfl rfl rfl rfl rfl rfl rfl ?_
    have hk1 := hik 1
    refine im_g 1 (y := (1, _, _, _)) rfl trivial ?_
    refine im_bF rfl rfl ⟨(by first | decide | (constructor <;> omega)), trivial⟩ (by omega) ?_
    refine im_g 4 (y := (10, _, _, _)) rfl trivial ?_
    refine im_bT rfl rfl ⟨(by first | decide | (constructor <;> omega)), (by first | decide | (constructor <;> omega)), trivial⟩ (by decide) ?_
    refine im_g 4 (y := (25, _, _, _)) rfl ⟨(by omega), trivial⟩ ?_
    refine im_b rfl rfl ⟨(by first | omega | (rcases hik 1 with hz | hz <;> rw [hz] <;> decide)), trivial⟩ (fun j1 => ?_) (fun j1 => ?_)
    · refine im_g 6 (y := (45, _, _, _)) rfl ⟨(by omega), trivial⟩ ?_
      refine im_cLB rfl rfl (c_takeFrom (v := v) (v2 := I1.1) (R := R) (R2 := I1.2.1) (g := g) (g2 := I1.2.2) (by omega) hT (fun t hq => hg1 _ t hq)) rfl hT (fun v1 w1 hq => ?_)
      obtain ⟨rfl, rfl⟩ := hq
      refine ⟨_, _, _, _, _, _, _, rfl, rfl, ?_⟩
      refine im_g 2 (y := (52, _, _, _)) rfl trivial ?_
      refine im_cQ rfl rfl (c_clear (f := f) (k := k) (rw := rw_) (by omega) hT) rfl hT (fun v1 w1 hq => ?_)
      obtain ⟨rfl, rfl⟩ := hq
      refine ⟨_, _, _, _, rfl, rfl, ?_⟩
      refine im_g 2 (y := (57, _, _, _)) rfl trivial ?_
      refine im_eqs (y := (57, _, _, CW (xv, (pl_v v I1.1, pl_R R I1.2.1, pl_g g I1.2.2 6), ik, y, (f, 0, rw_), (cv, cb, cs, cwd), U, P, W, fr, I0, I1))) rfl ?_
      refine im_cX rfl rfl (cw_settle (x := 0) (by omega) hT (by decide)) rfl hT (fun v1 w1 hq => ?_)
      obtain ⟨rfl, rfl⟩ := hq
      refine ⟨((pl_U xv 12 (if 0 < 0 then 0 else 0)), (pl_v v I1.1, pl_R R I1.2.1, pl_g g I1.2.2 6), ik, y, (f, 0, rw_), (cv, cb, cs, cwd), U, P, W, (cw_fr 0 fr), I0, I1), rfl, rfl, ?_⟩
      refine im_r rfl rfl trivial rfl ?_
      first | (exact ⟨fun _ => ⟨rfl, rfl⟩, fun hz => (by omega), fun hz => (by omega), fun hz => (by omega)⟩) | (exact ⟨fun hz => (by omega), fun _ => ⟨rfl, rfl⟩, fun hz => (by omega), fun hz => (by omega)⟩) | (exact ⟨fun hz => (by omega), fun hz => (by omega), fun _ => ⟨rfl, rfl⟩, fun hz => (by omega)⟩) | (exact ⟨fun hz => (by omega), fun hz => (by omega), fun hz => (by omega), fun _ => ⟨rfl, rfl⟩⟩)
    · refine im_g 2 (y := (31, _, _, _)) rfl trivial ?_
      refine im_eqs (y := (31, _, _, CW (xv, (v, R, g), ik, y, (f, k, rw_), (cv, cb, cs, cwd), U, P, W, fr, I0, I1))) rfl ?_
      refine im_cX rfl rfl (cw_settle (x := (-2)) (by omega) hT (by decide)) rfl hT (fun v1 w1 hq => ?_)
      obtain ⟨rfl, rfl⟩ := hq
      refine ⟨((pl_U xv 12 (if (-2) < 0 then (-2) else 0)), (v, R, g), ik, y, (f, k, rw_), (cv, cb, cs, cwd), U, P, W, (cw_fr (-2) fr), I0, I1), rfl, rfl, ?_⟩
      refine im_r rfl rfl trivial rfl ?_
      first | (exact ⟨fun _ => ⟨rfl, rfl⟩, fun hz => (by omega), fun hz => (by omega), fun hz => (by omega)⟩) | (exact ⟨fun hz => (by omega), fun _ => ⟨rfl, rfl⟩, fun hz => (by omega), fun hz => (by omega)⟩) | (exact ⟨fun hz => (by omega), fun hz => (by omega), fun _ => ⟨rfl, rfl⟩, fun hz => (by omega)⟩) | (exact ⟨fun hz => (by omega), fun hz => (by omega), fun hz => (by omega), fun _ => ⟨rfl, rfl⟩⟩)
  · refine im_ct_of (own := 8) (ret := (some .int)) (code := ab_k_X8_back) (nL := 2) (L0 := [some (mr 0), some (.inl e)]) (n := 95) rfl rfl rfl rfl rfl rfl rfl rfl rfl ?_
    refine im_g 1 (y := (1, _, _, _)) rfl trivial ?_
    refine im_bT rfl rfl ⟨(by first | decide | (constructor <;> omega)), trivial⟩ (by omega) ?_
    refine im_g 2 (y := (15, _, _, _)) rfl trivial ?_
    refine im_eqs (y := (15, _, _, CW (xv, (v, R, g), ik, y, (f, k, rw_), (cv, cb, cs, cwd), U, P, W, fr, I0, I1))) rfl ?_
    refine im_cX rfl rfl (cw_settle (x := (-1)) (by omega) hT (by decide)) rfl hT (fun v1 w1 hq => ?_)
    obtain ⟨rfl, rfl⟩ := hq
    refine ⟨((pl_U xv 12 (if (-1) < 0 then (-1) else 0)), (v, R, g), ik, y, (f, k, rw_), (cv, cb, cs, cwd), U, P, W, (cw_fr (-1) fr), I0, I1), rfl, rfl, ?_⟩
    refine im_r rfl rfl trivial rfl ?_
    first | (exact ⟨fun _ => ⟨rfl, rfl⟩, fun hz => (by omega), fun hz => (by omega), fun hz => (by omega)⟩) | (exact ⟨fun hz => (by omega), fun _ => ⟨rfl, rfl⟩, fun hz => (by omega), fun hz => (by omega)⟩) | (exact ⟨fun hz => (by omega), fun hz => (by omega), fun _ => ⟨rfl, rfl⟩, fun hz => (by omega)⟩) | (exact ⟨fun hz => (by omega), fun hz => (by omega), fun hz => (by omega), fun _ => ⟨rfl, rfl⟩⟩)
  · refine im_ct_of (own := 8) (ret := (some .int)) (code := ab_k_X8_back) (nL := 2) (L0 := [some (mr 0), some (.inl e)]) (n := 95) rfl rfl rfl rfl rfl rfl rfl rfl rfl ?_
    refine im_g 1 (y := (1, _, _, _)) rfl trivial ?_
    refine im_bF rfl rfl ⟨(by first | decide | (constructor <;> omega)), trivial⟩ (by omega) ?_
    refine im_g 4 (y := (10, _, _, _)) rfl trivial ?_
    refine im_bF rfl rfl ⟨(by first | decide | (constructor <;> omega)), (by first | decide | (constructor <;> omega)), trivial⟩ (by omega) ?_
    refine im_g 2 (y := (15, _, _, _)) rfl trivial ?_
    refine im_eqs (y := (15, _, _, CW (xv, (v, R, g), ik, y, (f, k, rw_), (cv, cb, cs, cwd), U, P, W, fr, I0, I1))) rfl ?_
    refine im_cX rfl rfl (cw_settle (x := (-1)) (by omega) hT (by decide)) rfl hT (fun v1 w1 hq => ?_)
    obtain ⟨rfl, rfl⟩ := hq
    refine ⟨((pl_U xv 12 (if (-1) < 0 then (-1) else 0)), (v, R, g), ik, y, (f, k, rw_), (cv, cb, cs, cwd), U, P, W, (cw_fr (-1) fr), I0, I1), rfl, rfl, ?_⟩
    refine im_r rfl rfl trivial rfl ?_
    first | (exact ⟨fun _ => ⟨rfl, rfl⟩, fun hz => (by omega), fun hz => (by omega), fun hz => (by omega)⟩) | (exact ⟨fun hz => (by omega), fun _ => ⟨rfl, rfl⟩, fun hz => (by omega), fun hz => (by omega)⟩) | (exact ⟨fun hz => (by omega), fun hz => (by omega), fun _ => ⟨rfl, rfl⟩, fun hz => (by omega)⟩) | (exact ⟨fun hz => (by omega), fun hz => (by omega), fun hz => (by omega), fun _ => ⟨rfl, rfl⟩⟩)
set_option maxHeartbeats 8000000 in
theorem cw_group (hd : 1 ≤ d) (hT : T.length < 1000) (h : LOK v R) {n what : Int} (hn : im_ir n) (hw : im_ir what) : im_ct ro T d 82 [mr 0, .inl n, .inl what] (CW (xv, (v, R, g), ik, y, (f, k, rw_), (cv, cb, cs, cwd), U, P, W, fr, I0, I1)) (fun r w => r = some (.inl (cw_grp n what v R)) ∧ w = CW (xv, (v, R, g), ik, y, (f, k, rw_), (cv, cb, cs, cwd), U, P, W, fr, I0, I1)) := by
  obtain ⟨d, rfl⟩ : ∃ e, d = e + 1 := ⟨d - 1, by omega⟩
  have hgr := lk_grp h
  have hk : what = 0 ∨ what = 1 ∨ what = 2 ∨ (what < 0 ∨ 2 < what) := by omega
  rcases hk with rfl | rfl | rfl | hk
  · refine im_ct_of (own := 8) (ret := (some .int)) (code := ab_k_X8_group) (nL := 3) (L0 := [some (mr 0), some (.inl n), some (.inl 0)]) (n := 95) rfl rfl rfl rfl rfl rfl rfl rfl rfl ?_
    refine im_g 1 (y := (1, _, _, _)) rfl trivial ?_
    refine im_b rfl rfl ⟨(by omega), trivial⟩ (fun j1 => ?_) (fun j1 => ?_)
    · refine im_g 1 (y := (22, _, _, _)) rfl trivial ?_
      refine im_r rfl rfl trivial rfl ?_
      refine ⟨congrArg (fun z => some (Sum.inl z)) ?_, rfl⟩
      unfold cw_grp
      first | (rw [if_pos (by omega)]; rfl) | (rw [if_neg (by omega)])
    · refine im_g 4 (y := (12, _, _, _)) rfl trivial ?_
      refine im_b rfl rfl ⟨(by omega), (by omega), trivial⟩ (fun j2 => ?_) (fun j2 => ?_)
      · refine im_g 1 (y := (22, _, _, _)) rfl trivial ?_
        refine im_r rfl rfl trivial rfl ?_
        refine ⟨congrArg (fun z => some (Sum.inl z)) ?_, rfl⟩
        unfold cw_grp
        first | (rw [if_pos (by omega)]; rfl) | (rw [if_neg (by omega)])
      · refine im_g 2 (y := (18, _, _, _)) rfl trivial ?_
        refine im_bT rfl rfl ⟨(by omega), (by omega), trivial⟩ (by omega) ?_
        refine im_g 1 (y := (24, _, _, _)) rfl trivial ?_
        refine im_sw (tgt := 52) rfl (by decide) (by decide) (Or.inr ⟨_, rfl, by decide⟩) (by decide) ?_
        refine im_g 5 (y := (61, _, _, _)) rfl ⟨(by omega), trivial⟩ ?_
        refine im_r rfl rfl trivial rfl ?_
        refine ⟨congrArg (fun z => some (Sum.inl z)) ?_, rfl⟩
        unfold cw_grp
        first | (rw [if_pos (by omega)]; rfl) | (rw [if_neg (by omega)])
  · refine im_ct_of (own := 8) (ret := (some .int)) (code := ab_k_X8_group) (nL := 3) (L0 := [some (mr 0), some (.inl n), some (.inl 1)]) (n := 95) rfl rfl rfl rfl rfl rfl rfl rfl rfl ?_
    refine im_g 1 (y := (1, _, _, _)) rfl trivial ?_
    refine im_b rfl rfl ⟨(by omega), trivial⟩ (fun j1 => ?_) (fun j1 => ?_)
    · refine im_g 1 (y := (22, _, _, _)) rfl trivial ?_
      refine im_r rfl rfl trivial rfl ?_
      refine ⟨congrArg (fun z => some (Sum.inl z)) ?_, rfl⟩
      unfold cw_grp
      first | (rw [if_pos (by omega)]; rfl) | (rw [if_neg (by omega)])
    · refine im_g 4 (y := (12, _, _, _)) rfl trivial ?_
      refine im_b rfl rfl ⟨(by omega), (by omega), trivial⟩ (fun j2 => ?_) (fun j2 => ?_)
      · refine im_g 1 (y := (22, _, _, _)) rfl trivial ?_
        refine im_r rfl rfl trivial rfl ?_
        refine ⟨congrArg (fun z => some (Sum.inl z)) ?_, rfl⟩
        unfold cw_grp
        first | (rw [if_pos (by omega)]; rfl) | (rw [if_neg (by omega)])
      · refine im_g 2 (y := (18, _, _, _)) rfl trivial ?_
        refine im_bT rfl rfl ⟨(by omega), (by omega), trivial⟩ (by omega) ?_
        refine im_g 1 (y := (24, _, _, _)) rfl trivial ?_
        refine im_sw (tgt := 62) rfl (by decide) (by decide) (Or.inr ⟨_, rfl, by decide⟩) (by decide) ?_
        refine im_g 5 (y := (71, _, _, _)) rfl ⟨(by omega), trivial⟩ ?_
        refine im_r rfl rfl trivial rfl ?_
        refine ⟨congrArg (fun z => some (Sum.inl z)) ?_, rfl⟩
        unfold cw_grp
        first | (rw [if_pos (by omega)]; rfl) | (rw [if_neg (by omega)])
  · refine im_ct_of (own := 8) (ret := (some .int)) (code := ab_k_X8_group) (nL := 3) (L0 := [some (mr 0), some (.inl n), some (.inl 2)]) (n := 95) rfl rfl rfl rfl rfl rfl rfl rfl rfl ?_
    refine im_g 1 (y := (1, _, _, _)) rfl trivial ?_
    refine im_b rfl rfl ⟨(by omega), trivial⟩ (fun j1 => ?_) (fun j1 => ?_)
    · refine im_g 1 (y := (22, _, _, _)) rfl trivial ?_
      refine im_r rfl rfl trivial rfl ?_
      refine ⟨congrArg (fun z => some (Sum.inl z)) ?_, rfl⟩
      unfold cw_grp
      first | (rw [if_pos (by omega)]; rfl) | (rw [if_neg (by omega)])
    · refine im_g 4 (y := (12, _, _, _)) rfl trivial ?_
      refine im_b rfl rfl ⟨(by omega), (by omega), trivial⟩ (fun j2 => ?_) (fun j2 => ?_)
      · refine im_g 1 (y := (22, _, _, _)) rfl trivial ?_
        refine im_r rfl rfl trivial rfl ?_
        refine ⟨congrArg (fun z => some (Sum.inl z)) ?_, rfl⟩
        unfold cw_grp
        first | (rw [if_pos (by omega)]; rfl) | (rw [if_neg (by omega)])
      · refine im_g 2 (y := (18, _, _, _)) rfl trivial ?_
        refine im_bT rfl rfl ⟨(by omega), (by omega), trivial⟩ (by omega) ?_
        refine im_g 1 (y := (24, _, _, _)) rfl trivial ?_
        refine im_sw (tgt := 72) rfl (by decide) (by decide) (Or.inr ⟨_, rfl, by decide⟩) (by decide) ?_
        refine im_g 5 (y := (81, _, _, _)) rfl ⟨(by omega), trivial⟩ ?_
        refine im_r rfl rfl trivial rfl ?_
        refine ⟨congrArg (fun z => some (Sum.inl z)) ?_, rfl⟩
        unfold cw_grp
        first | (rw [if_pos (by omega)]; rfl) | (rw [if_neg (by omega)])
  · refine im_ct_of (own := 8) (ret := (some .int)) (code := ab_k_X8_group) (nL := 3) (L0 := [some (mr 0), some (.inl n), some (.inl what)]) (n := 95) rfl rfl rfl rfl rfl rfl rfl rfl rfl ?_
    refine im_g 1 (y := (1, _, _, _)) rfl trivial ?_
    refine im_b rfl rfl ⟨(by omega), trivial⟩ (fun j1 => ?_) (fun j1 => ?_)
    · refine im_g 1 (y := (22, _, _, _)) rfl trivial ?_
      refine im_r rfl rfl trivial rfl ?_
      refine ⟨congrArg (fun z => some (Sum.inl z)) ?_, rfl⟩
      unfold cw_grp
      first | (rw [if_pos (by omega)]; rw [if_neg (by omega), if_neg (by omega), if_neg (by omega)]) | (rw [if_neg (by omega)])
    · refine im_g 4 (y := (12, _, _, _)) rfl trivial ?_
      refine im_b rfl rfl ⟨(by omega), (by omega), trivial⟩ (fun j2 => ?_) (fun j2 => ?_)
      · refine im_g 1 (y := (22, _, _, _)) rfl trivial ?_
        refine im_r rfl rfl trivial rfl ?_
        refine ⟨congrArg (fun z => some (Sum.inl z)) ?_, rfl⟩
        unfold cw_grp
        first | (rw [if_pos (by omega)]; rw [if_neg (by omega), if_neg (by omega), if_neg (by omega)]) | (rw [if_neg (by omega)])
      · refine im_g 2 (y := (18, _, _, _)) rfl trivial ?_
        refine im_bT rfl rfl ⟨(by omega), (by omega), trivial⟩ (by omega) ?_
        refine im_g 1 (y := (24, _, _, _)) rfl trivial ?_
        refine im_sw (tgt := 82) rfl (by omega) (by decide) (Or.inl hk) (by unfold im_ts; rw [if_pos hk]; rfl) ?_
        refine im_g 1 (y := (83, _, _, _)) rfl trivial ?_
        refine im_r rfl rfl trivial rfl ?_
        refine ⟨congrArg (fun z => some (Sum.inl z)) ?_, rfl⟩
        unfold cw_grp
        first | (rw [if_pos (by omega)]; rw [if_neg (by omega), if_neg (by omega), if_neg (by omega)]) | (rw [if_neg (by omega)])
end Cd
