/-! the class's calls, first part -/
theorem cw_send_bd (lw : Option im_T) {v : Nat → Int} {R : Nat → Int → Int} (h : LOK v R) (K a b n : Int) : -6 ≤ (pl_act lw K a b n v R).1 ∧ (pl_act lw K a b n v R).1 ≤ 2000000 := by
  have h1 := pl_send_b lw a v R
  have h2 := (LOK_day h).2.2.2
  have ca := lk_cnt h a
  have cb := lk_cnt h b
  unfold pl_act
  by_cases k0 : K = 0
  · rw [if_pos k0]
    omega
  rw [if_neg k0]
  by_cases k1 : K = 1
  · rw [if_pos k1]
    split
    · omega
    · exact ⟨by dsimp only; omega, by dsimp only; omega⟩
  rw [if_neg k1]
  by_cases k2 : K = 2
  · rw [if_pos k2]
    show -6 ≤ (pl_lend a b n v R).1 ∧ (pl_lend a b n v R).1 ≤ 2000000
    unfold pl_lend
    split
    · exact ⟨by dsimp only; omega, by dsimp only; omega⟩
    split
    · exact ⟨by dsimp only; omega, by dsimp only; omega⟩
    split
    · exact ⟨by dsimp only; omega, by dsimp only; omega⟩
    · dsimp only
      unfold im_up
      split
      · split <;> omega
      · rw [if_pos rfl]
        omega
  · rw [if_neg k2]
    show -6 ≤ (pl_growBy a b v R).1 ∧ (pl_growBy a b v R).1 ≤ 2000000
    unfold pl_growBy
    split
    · exact ⟨by dsimp only; omega, by dsimp only; omega⟩
    split
    · exact ⟨by dsimp only; omega, by dsimp only; omega⟩
    split
    · exact ⟨by dsimp only; omega, by dsimp only; omega⟩
    · exact ⟨by dsimp only; omega, by dsimp only; omega⟩
theorem cw_add_bd {v : Nat → Int} {R : Nat → Int → Int} (h : LOK v R) (u c : Int) : -6 ≤ (pl_add u c v R).1 ∧ (pl_add u c v R).1 ≤ 2000000 := by
  have hp := lk_par h
  unfold pl_add
  split
  · exact ⟨by dsimp only; omega, by dsimp only; omega⟩
  split
  · exact ⟨by dsimp only; omega, by dsimp only; omega⟩
  · exact ⟨by dsimp only; omega, by dsimp only; omega⟩
section Cc
variable {ro : ab_R} {T : List im_T} {d : Nat} {xv : Nat → Int} {v : Nat → Int} {R : Nat → Int → Int} {g : Int → Option Nat} {ik : Int → Int} {y : cw_L} {f k : Int} {rw_ : Int → Int} {cv : Nat → Int} {cb : Int} {cs cwd : Int → Int} {U : cw_U} {P : cw_P} {W : cw_R} {fr : Int → Int} {I0 I1 : cw_L}
set_option maxHeartbeats 8000000 in
theorem cw_status (hd : 1 ≤ d) (hT : T.length < 1000)  : im_ct ro T d 114 [mr 0] (CW (xv, (v, R, g), ik, y, (f, k, rw_), (cv, cb, cs, cwd), U, P, W, fr, I0, I1)) (fun r w => r = some (.inl (xv 12)) ∧ w = CW (xv, (v, R, g), ik, y, (f, k, rw_), (cv, cb, cs, cwd), U, P, W, fr, I0, I1)) := by
  obtain ⟨d, rfl⟩ : ∃ e, d = e + 1 := ⟨d - 1, by omega⟩
  refine im_ct_of (own := 8) (ret := (some .int)) (code := ab_k_X8_status) (nL := 1) (L0 := [some (mr 0)]) (n := 95) rfl rfl rfl rfl rfl rfl rfl rfl rfl ?_
  refine im_g 2 (y := (4, _, _, _)) rfl trivial ?_
  refine im_r rfl rfl trivial rfl ?_
  exact ⟨rfl, rfl⟩
set_option maxHeartbeats 8000000 in
theorem cw_stones (hd : 1 ≤ d) (hT : T.length < 1000)  : im_ct ro T d 87 [mr 0] (CW (xv, (v, R, g), ik, y, (f, k, rw_), (cv, cb, cs, cwd), U, P, W, fr, I0, I1)) (fun r w => r = some (.inl (xv 15)) ∧ w = CW (xv, (v, R, g), ik, y, (f, k, rw_), (cv, cb, cs, cwd), U, P, W, fr, I0, I1)) := by
  obtain ⟨d, rfl⟩ : ∃ e, d = e + 1 := ⟨d - 1, by omega⟩
  refine im_ct_of (own := 8) (ret := (some .int)) (code := ab_k_X8_stones) (nL := 1) (L0 := [some (mr 0)]) (n := 95) rfl rfl rfl rfl rfl rfl rfl rfl rfl ?_
  refine im_g 2 (y := (4, _, _, _)) rfl trivial ?_
  refine im_r rfl rfl trivial rfl ?_
  exact ⟨rfl, rfl⟩
set_option maxHeartbeats 8000000 in
theorem cw_fault (hd : 1 ≤ d) (hT : T.length < 1000)  : im_ct ro T d 90 [mr 0] (CW (xv, (v, R, g), ik, y, (f, k, rw_), (cv, cb, cs, cwd), U, P, W, fr, I0, I1)) (fun r w => r = some (.inl (xv 13)) ∧ w = CW (xv, (v, R, g), ik, y, (f, k, rw_), (cv, cb, cs, cwd), U, P, W, fr, I0, I1)) := by
  obtain ⟨d, rfl⟩ : ∃ e, d = e + 1 := ⟨d - 1, by omega⟩
  refine im_ct_of (own := 8) (ret := (some .int)) (code := ab_k_X8_fault) (nL := 1) (L0 := [some (mr 0)]) (n := 95) rfl rfl rfl rfl rfl rfl rfl rfl rfl ?_
  refine im_g 2 (y := (4, _, _, _)) rfl trivial ?_
  refine im_r rfl rfl trivial rfl ?_
  exact ⟨rfl, rfl⟩
set_option maxHeartbeats 8000000 in
theorem cw_stopped (hd : 1 ≤ d) (hT : T.length < 1000)  : im_ct ro T d 91 [mr 0] (CW (xv, (v, R, g), ik, y, (f, k, rw_), (cv, cb, cs, cwd), U, P, W, fr, I0, I1)) (fun r w => r = some (.inl (xv 14)) ∧ w = CW (xv, (v, R, g), ik, y, (f, k, rw_), (cv, cb, cs, cwd), U, P, W, fr, I0, I1)) := by
  obtain ⟨d, rfl⟩ : ∃ e, d = e + 1 := ⟨d - 1, by omega⟩
  refine im_ct_of (own := 8) (ret := (some .int)) (code := ab_k_X8_stopped) (nL := 1) (L0 := [some (mr 0)]) (n := 95) rfl rfl rfl rfl rfl rfl rfl rfl rfl ?_
  refine im_g 2 (y := (4, _, _, _)) rfl trivial ?_
  refine im_r rfl rfl trivial rfl ?_
  exact ⟨rfl, rfl⟩
set_option maxHeartbeats 8000000 in
theorem cw_forget (hd : 1 ≤ d) (hT : T.length < 1000)  : im_ct ro T d 104 [mr 0] (CW (xv, (v, R, g), ik, y, (f, k, rw_), (cv, cb, cs, cwd), U, P, W, fr, I0, I1)) (fun r w => r = some (.inl (v 3)) ∧ w = CW (xv, (pl_U v 3 0, R, g), ik, y, (f, k, rw_), (cv, cb, cs, cwd), U, P, W, fr, I0, I1)) := by
  obtain ⟨d, rfl⟩ : ∃ e, d = e + 1 := ⟨d - 1, by omega⟩
  refine im_ct_of (own := 8) (ret := (some .int)) (code := ab_k_X8_forget) (nL := 2) (L0 := [some (mr 0), none]) (n := 95) rfl rfl rfl rfl rfl rfl rfl rfl rfl ?_
  refine im_g 9 (y := (17, _, _, _)) rfl trivial ?_
  refine im_r rfl rfl trivial rfl ?_
  exact ⟨rfl, rfl⟩
set_option maxHeartbeats 8000000 in
theorem cw_force (hd : 2 ≤ d) (hT : T.length < 1000) (h : LOK v R) {n : Int} (hn : im_ir n) : im_ct ro T d 92 [mr 0, .inl n] (CW (xv, (v, R, g), ik, y, (f, k, rw_), (cv, cb, cs, cwd), U, P, W, fr, I0, I1)) (fun r w => ((-1 ≤ n ∧ n < v 4) → r = some (.inl (v 5)) ∧ w = CW ((pl_U xv 12 0), (pl_U v 5 n, R, g), ik, y, (f, k, rw_), (cv, cb, cs, cwd), U, P, W, fr, I0, I1)) ∧ (¬ (-1 ≤ n ∧ n < v 4) → r = some (.inl (-2)) ∧ w = CW ((pl_U xv 12 (if (-2) < 0 then (-2) else 0)), (v, R, g), ik, y, (f, k, rw_), (cv, cb, cs, cwd), U, P, W, (cw_fr (-2) fr), I0, I1))) := by
  obtain ⟨d, rfl⟩ : ∃ e, d = e + 1 := ⟨d - 1, by omega⟩
  have hlw := lk_law h
  refine im_ct_of (own := 8) (ret := (some .int)) (code := ab_k_X8_force) (nL := 3) (L0 := [some (mr 0), some (.inl n), none]) (n := 95) rfl rfl rfl rfl rfl rfl rfl rfl rfl ?_
  refine im_g 2 (y := (2, _, _, _)) rfl trivial ?_
  refine im_b rfl rfl ⟨(by omega), (by omega), trivial⟩ (fun j1 => ?_) (fun j1 => ?_)
  · refine im_g 12 (y := (49, _, _, _)) rfl trivial ?_
    refine im_r rfl rfl trivial rfl ?_
    first | (exact ⟨fun _ => ⟨rfl, rfl⟩, fun hz => (by omega)⟩) | (exact ⟨fun hz => (by omega), fun _ => ⟨rfl, rfl⟩⟩)
  · refine im_g 1 (y := (6, _, _, _)) rfl trivial ?_
    refine im_b rfl rfl ⟨(by omega), trivial⟩ (fun j2 => ?_) (fun j2 => ?_)
    · refine im_g 2 (y := (23, _, _, _)) rfl trivial ?_
      refine im_eqs (y := (23, _, _, CW (xv, (v, R, g), ik, y, (f, k, rw_), (cv, cb, cs, cwd), U, P, W, fr, I0, I1))) rfl ?_
      refine im_cX rfl rfl (cw_settle (x := (-2)) (by omega) hT (by decide)) rfl hT (fun v1 w1 hq => ?_)
      obtain ⟨rfl, rfl⟩ := hq
      refine ⟨((pl_U xv 12 (if (-2) < 0 then (-2) else 0)), (v, R, g), ik, y, (f, k, rw_), (cv, cb, cs, cwd), U, P, W, (cw_fr (-2) fr), I0, I1), rfl, rfl, ?_⟩
      refine im_r rfl rfl trivial rfl ?_
      first | (exact ⟨fun _ => ⟨rfl, rfl⟩, fun hz => (by omega)⟩) | (exact ⟨fun hz => (by omega), fun _ => ⟨rfl, rfl⟩⟩)
    · refine im_g 4 (y := (17, _, _, _)) rfl trivial ?_
      refine im_b rfl rfl ⟨(by omega), (by omega), trivial⟩ (fun j3 => ?_) (fun j3 => ?_)
      · refine im_g 12 (y := (49, _, _, _)) rfl trivial ?_
        refine im_r rfl rfl trivial rfl ?_
        first | (exact ⟨fun _ => ⟨rfl, rfl⟩, fun hz => (by omega)⟩) | (exact ⟨fun hz => (by omega), fun _ => ⟨rfl, rfl⟩⟩)
      · refine im_g 2 (y := (23, _, _, _)) rfl trivial ?_
        refine im_eqs (y := (23, _, _, CW (xv, (v, R, g), ik, y, (f, k, rw_), (cv, cb, cs, cwd), U, P, W, fr, I0, I1))) rfl ?_
        refine im_cX rfl rfl (cw_settle (x := (-2)) (by omega) hT (by decide)) rfl hT (fun v1 w1 hq => ?_)
        obtain ⟨rfl, rfl⟩ := hq
        refine ⟨((pl_U xv 12 (if (-2) < 0 then (-2) else 0)), (v, R, g), ik, y, (f, k, rw_), (cv, cb, cs, cwd), U, P, W, (cw_fr (-2) fr), I0, I1), rfl, rfl, ?_⟩
        refine im_r rfl rfl trivial rfl ?_
        first | (exact ⟨fun _ => ⟨rfl, rfl⟩, fun hz => (by omega)⟩) | (exact ⟨fun hz => (by omega), fun _ => ⟨rfl, rfl⟩⟩)
set_option maxHeartbeats 8000000 in
theorem cw_hear (hd : 2 ≤ d) (hT : T.length < 1000) (h : LOK v R) {p ov : Int} (hp : im_ir p) (hov : im_ir ov) : im_ct ro T d 103 [mr 0, .inl p, .inl ov] (CW (xv, (v, R, g), ik, y, (f, k, rw_), (cv, cb, cs, cwd), U, P, W, fr, I0, I1)) (fun r w => (¬ (0 ≤ ov ∧ ov ≤ 98) → r = some (.inl (-1)) ∧ w = CW ((pl_U xv 12 (if (-1) < 0 then (-1) else 0)), (v, R, g), ik, y, (f, k, rw_), (cv, cb, cs, cwd), U, P, W, (cw_fr (-1) fr), I0, I1)) ∧ (((0 ≤ ov ∧ ov ≤ 98) ∧ ¬ (0 ≤ p ∧ p < v 0)) → r = some (.inl (-2)) ∧ w = CW ((pl_U xv 12 (if (-2) < 0 then (-2) else 0)), (v, R, g), ik, y, (f, k, rw_), (cv, cb, cs, cwd), U, P, W, (cw_fr (-2) fr), I0, I1)) ∧ (((0 ≤ ov ∧ ov ≤ 98) ∧ (0 ≤ p ∧ p < v 0) ∧ v 3 = 8) → r = some (.inl (-5)) ∧ w = CW ((pl_U xv 12 (if (-5) < 0 then (-5) else 0)), (v, R, g), ik, y, (f, k, rw_), (cv, cb, cs, cwd), U, P, W, (cw_fr (-5) fr), I0, I1)) ∧ (((0 ≤ ov ∧ ov ≤ 98) ∧ (0 ≤ p ∧ p < v 0) ∧ v 3 < 8) → r = some (.inl (v 3 + 1)) ∧ w = CW ((pl_U xv 12 (if (v 3 + 1) < 0 then (v 3 + 1) else 0)), (pl_U v 3 (v 3 + 1), pl_U (pl_U R 8 (im_up (R 8) (v 3) p)) 9 (im_up (R 9) (v 3) ov), g), ik, y, (f, k, rw_), (cv, cb, cs, cwd), U, P, W, (cw_fr (v 3 + 1) fr), I0, I1))) := by
  obtain ⟨d, rfl⟩ : ∃ e, d = e + 1 := ⟨d - 1, by omega⟩
  have hhr := lk_hrd h
  have hpar := lk_par h
  refine im_ct_of (own := 8) (ret := (some .int)) (code := ab_k_X8_hear) (nL := 3) (L0 := [some (mr 0), some (.inl p), some (.inl ov)]) (n := 95) rfl rfl rfl rfl rfl rfl rfl rfl rfl ?_
  refine im_g 1 (y := (1, _, _, _)) rfl trivial ?_
  refine im_b rfl rfl ⟨(by omega), trivial⟩ (fun j1 => ?_) (fun j1 => ?_)
  · refine im_g 2 (y := (12, _, _, _)) rfl trivial ?_
    refine im_eqs (y := (12, _, _, CW (xv, (v, R, g), ik, y, (f, k, rw_), (cv, cb, cs, cwd), U, P, W, fr, I0, I1))) rfl ?_
    refine im_cX rfl rfl (cw_settle (x := (-1)) (by omega) hT (by decide)) rfl hT (fun v1 w1 hq => ?_)
    obtain ⟨rfl, rfl⟩ := hq
    refine ⟨((pl_U xv 12 (if (-1) < 0 then (-1) else 0)), (v, R, g), ik, y, (f, k, rw_), (cv, cb, cs, cwd), U, P, W, (cw_fr (-1) fr), I0, I1), rfl, rfl, ?_⟩
    refine im_r rfl rfl trivial rfl ?_
    first | (exact ⟨fun _ => ⟨rfl, rfl⟩, fun hz => (by omega), fun hz => (by omega), fun hz => (by omega)⟩) | (exact ⟨fun hz => (by omega), fun _ => ⟨rfl, rfl⟩, fun hz => (by omega), fun hz => (by omega)⟩) | (exact ⟨fun hz => (by omega), fun hz => (by omega), fun _ => ⟨rfl, rfl⟩, fun hz => (by omega)⟩) | (exact ⟨fun hz => (by omega), fun hz => (by omega), fun hz => (by omega), fun _ => ⟨rfl, rfl⟩⟩)
  · refine im_g 2 (y := (7, _, _, _)) rfl trivial ?_
    refine im_b rfl rfl ⟨(by omega), (by omega), trivial⟩ (fun j2 => ?_) (fun j2 => ?_)
    · refine im_g 3 (y := (21, _, _, _)) rfl trivial ?_
      refine im_cL rfl rfl (c_has (v := v) (R := R) (g := g) (p := p) (by omega) hT hp (lk_par h)) rfl hT (fun v1 w1 hq => ?_)
      obtain ⟨rfl, rfl⟩ := hq
      refine ⟨_, _, _, _, rfl, rfl, ?_⟩
      refine im_b rfl rfl ⟨(by split <;> decide), trivial⟩ (fun j3 => ?_) (fun j3 => ?_)
      · have hpp : 0 ≤ p ∧ p < v 0 := by
          by_cases cz : 0 ≤ p ∧ p < v 0 ∧ p < 10
          · exact ⟨cz.1, cz.2.1⟩
          · rw [if_neg cz] at j3; exact absurd j3 (by decide)
        clear j3
        refine im_g 4 (y := (43, _, _, _)) rfl trivial ?_
        refine im_b rfl rfl ⟨(by omega), (by omega), trivial⟩ (fun j4 => ?_) (fun j4 => ?_)
        · refine im_g 27 (y := (106, _, _, _)) rfl ⟨(by omega), (by omega), trivial⟩ ?_
          refine im_eqs (y := (106, _, _, CW (xv, (pl_U v 3 (v 3 + 1), pl_U (pl_U R 8 (im_up (R 8) (v 3) p)) 9 (im_up (R 9) (v 3) ov), g), ik, y, (f, k, rw_), (cv, cb, cs, cwd), U, P, W, fr, I0, I1))) rfl ?_
          refine im_cX rfl rfl (cw_settle (x := (v 3 + 1)) (by omega) hT (by omega)) rfl hT (fun v1 w1 hq => ?_)
          obtain ⟨rfl, rfl⟩ := hq
          refine ⟨((pl_U xv 12 (if (v 3 + 1) < 0 then (v 3 + 1) else 0)), (pl_U v 3 (v 3 + 1), pl_U (pl_U R 8 (im_up (R 8) (v 3) p)) 9 (im_up (R 9) (v 3) ov), g), ik, y, (f, k, rw_), (cv, cb, cs, cwd), U, P, W, (cw_fr (v 3 + 1) fr), I0, I1), rfl, rfl, ?_⟩
          refine im_r rfl rfl trivial rfl ?_
          first | (exact ⟨fun _ => ⟨rfl, rfl⟩, fun hz => (by omega), fun hz => (by omega), fun hz => (by omega)⟩) | (exact ⟨fun hz => (by omega), fun _ => ⟨rfl, rfl⟩, fun hz => (by omega), fun hz => (by omega)⟩) | (exact ⟨fun hz => (by omega), fun hz => (by omega), fun _ => ⟨rfl, rfl⟩, fun hz => (by omega)⟩) | (exact ⟨fun hz => (by omega), fun hz => (by omega), fun hz => (by omega), fun _ => ⟨rfl, rfl⟩⟩)
        · refine im_g 2 (y := (49, _, _, _)) rfl trivial ?_
          refine im_eqs (y := (49, _, _, CW (xv, (v, R, g), ik, y, (f, k, rw_), (cv, cb, cs, cwd), U, P, W, fr, I0, I1))) rfl ?_
          refine im_cX rfl rfl (cw_settle (x := (-5)) (by omega) hT (by decide)) rfl hT (fun v1 w1 hq => ?_)
          obtain ⟨rfl, rfl⟩ := hq
          refine ⟨((pl_U xv 12 (if (-5) < 0 then (-5) else 0)), (v, R, g), ik, y, (f, k, rw_), (cv, cb, cs, cwd), U, P, W, (cw_fr (-5) fr), I0, I1), rfl, rfl, ?_⟩
          refine im_r rfl rfl trivial rfl ?_
          first | (exact ⟨fun _ => ⟨rfl, rfl⟩, fun hz => (by omega), fun hz => (by omega), fun hz => (by omega)⟩) | (exact ⟨fun hz => (by omega), fun _ => ⟨rfl, rfl⟩, fun hz => (by omega), fun hz => (by omega)⟩) | (exact ⟨fun hz => (by omega), fun hz => (by omega), fun _ => ⟨rfl, rfl⟩, fun hz => (by omega)⟩) | (exact ⟨fun hz => (by omega), fun hz => (by omega), fun hz => (by omega), fun _ => ⟨rfl, rfl⟩⟩)
      · have hpn : ¬ (0 ≤ p ∧ p < v 0) := by
          intro cz
          rw [if_pos ⟨cz.1, cz.2, by omega⟩] at j3
          exact absurd j3 (by decide)
        clear j3
        refine im_g 2 (y := (30, _, _, _)) rfl trivial ?_
        refine im_eqs (y := (30, _, _, CW (xv, (v, R, g), ik, y, (f, k, rw_), (cv, cb, cs, cwd), U, P, W, fr, I0, I1))) rfl ?_
        refine im_cX rfl rfl (cw_settle (x := (-2)) (by omega) hT (by decide)) rfl hT (fun v1 w1 hq => ?_)
        obtain ⟨rfl, rfl⟩ := hq
        refine ⟨((pl_U xv 12 (if (-2) < 0 then (-2) else 0)), (v, R, g), ik, y, (f, k, rw_), (cv, cb, cs, cwd), U, P, W, (cw_fr (-2) fr), I0, I1), rfl, rfl, ?_⟩
        refine im_r rfl rfl trivial rfl ?_
        first | (exact ⟨fun _ => ⟨rfl, rfl⟩, fun hz => (by omega), fun hz => (by omega), fun hz => (by omega)⟩) | (exact ⟨fun hz => (by omega), fun _ => ⟨rfl, rfl⟩, fun hz => (by omega), fun hz => (by omega)⟩) | (exact ⟨fun hz => (by omega), fun hz => (by omega), fun _ => ⟨rfl, rfl⟩, fun hz => (by omega)⟩) | (exact ⟨fun hz => (by omega), fun hz => (by omega), fun hz => (by omega), fun _ => ⟨rfl, rfl⟩⟩)
    · refine im_g 2 (y := (12, _, _, _)) rfl trivial ?_
      refine im_eqs (y := (12, _, _, CW (xv, (v, R, g), ik, y, (f, k, rw_), (cv, cb, cs, cwd), U, P, W, fr, I0, I1))) rfl ?_
      refine im_cX rfl rfl (cw_settle (x := (-1)) (by omega) hT (by decide)) rfl hT (fun v1 w1 hq => ?_)
      obtain ⟨rfl, rfl⟩ := hq
      refine ⟨((pl_U xv 12 (if (-1) < 0 then (-1) else 0)), (v, R, g), ik, y, (f, k, rw_), (cv, cb, cs, cwd), U, P, W, (cw_fr (-1) fr), I0, I1), rfl, rfl, ?_⟩
      refine im_r rfl rfl trivial rfl ?_
      first | (exact ⟨fun _ => ⟨rfl, rfl⟩, fun hz => (by omega), fun hz => (by omega), fun hz => (by omega)⟩) | (exact ⟨fun hz => (by omega), fun _ => ⟨rfl, rfl⟩, fun hz => (by omega), fun hz => (by omega)⟩) | (exact ⟨fun hz => (by omega), fun hz => (by omega), fun _ => ⟨rfl, rfl⟩, fun hz => (by omega)⟩) | (exact ⟨fun hz => (by omega), fun hz => (by omega), fun hz => (by omega), fun _ => ⟨rfl, rfl⟩⟩)
set_option maxHeartbeats 8000000 in
theorem cw_parish (hd : 3 ≤ d) (hT : T.length < 1000) (h : LOK v R) {u c : Int} (hu : im_ir u) (hc : im_ir c) : im_ct ro T d 80 [mr 0, .inl u, .inl c] (CW (xv, (v, R, g), ik, y, (f, k, rw_), (cv, cb, cs, cwd), U, P, W, fr, I0, I1)) (fun r w => ((pl_add u c v R).1 < 0 → r = some (.inl (pl_add u c v R).1) ∧ w = CW ((pl_U xv 12 (if (pl_add u c v R).1 < 0 then (pl_add u c v R).1 else 0)), ((pl_add u c v R).2.1, (pl_add u c v R).2.2, g), ik, y, (f, k, rw_), (cv, cb, cs, cwd), U, P, W, (cw_fr (pl_add u c v R).1 fr), I0, I1)) ∧ (0 ≤ (pl_add u c v R).1 → r = some (.inl (pl_add u c v R).1) ∧ w = CW ((pl_U xv 12 (if (pl_add u c v R).1 < 0 then (pl_add u c v R).1 else 0)), ((pl_add u c v R).2.1, (pl_add u c v R).2.2, g), ik, y, (f, 0, rw_), (cv, cb, cs, cwd), U, P, W, (cw_fr (pl_add u c v R).1 fr), I0, I1))) := by
  obtain ⟨d, rfl⟩ : ∃ e, d = e + 1 := ⟨d - 1, by omega⟩
  have hbd := cw_add_bd h u c
  refine im_ct_of (own := 8) (ret := (some .int)) (code := ab_k_X8_parish) (nL := 4) (L0 := [some (mr 0), some (.inl u), some (.inl c), none]) (n := 95) rfl rfl rfl rfl rfl rfl rfl rfl rfl ?_
  refine im_g 4 (y := (6, _, _, _)) rfl trivial ?_
  refine im_cL rfl rfl (c_addParish (v := v) (R := R) (g := g) (u := u) (c := c) (by omega) hT hu hc h) rfl hT (fun v1 w1 hq => ?_)
  obtain ⟨rfl, rfl⟩ := hq
  refine ⟨_, _, _, _, rfl, rfl, ?_⟩
  refine im_g 2 (y := (11, _, _, _)) rfl trivial ?_
  refine im_b rfl rfl ⟨(by omega), trivial⟩ (fun j1 => ?_) (fun j1 => ?_)
  · refine im_g 2 (y := (23, _, _, _)) rfl trivial ?_
    refine im_eqs (y := (23, _, _, CW (xv, ((pl_add u c v R).2.1, (pl_add u c v R).2.2, g), ik, y, (f, k, rw_), (cv, cb, cs, cwd), U, P, W, fr, I0, I1))) rfl ?_
    refine im_cX rfl rfl (cw_settle (x := (pl_add u c v R).1) (by omega) hT hbd) rfl hT (fun v1 w1 hq => ?_)
    obtain ⟨rfl, rfl⟩ := hq
    refine ⟨((pl_U xv 12 (if (pl_add u c v R).1 < 0 then (pl_add u c v R).1 else 0)), ((pl_add u c v R).2.1, (pl_add u c v R).2.2, g), ik, y, (f, k, rw_), (cv, cb, cs, cwd), U, P, W, (cw_fr (pl_add u c v R).1 fr), I0, I1), rfl, rfl, ?_⟩
    refine im_r rfl rfl trivial rfl ?_
    first | (exact ⟨fun _ => ⟨rfl, rfl⟩, fun hz => (by omega)⟩) | (exact ⟨fun hz => (by omega), fun _ => ⟨rfl, rfl⟩⟩)
  · refine im_g 2 (y := (18, _, _, _)) rfl trivial ?_
    refine im_cQ rfl rfl (c_clear (f := f) (k := k) (rw := rw_) (by omega) hT) rfl hT (fun v1 w1 hq => ?_)
    obtain ⟨rfl, rfl⟩ := hq
    refine ⟨_, _, _, _, rfl, rfl, ?_⟩
    refine im_g 2 (y := (23, _, _, _)) rfl trivial ?_
    refine im_eqs (y := (23, _, _, CW (xv, ((pl_add u c v R).2.1, (pl_add u c v R).2.2, g), ik, y, (f, 0, rw_), (cv, cb, cs, cwd), U, P, W, fr, I0, I1))) rfl ?_
    refine im_cX rfl rfl (cw_settle (x := (pl_add u c v R).1) (by omega) hT hbd) rfl hT (fun v1 w1 hq => ?_)
    obtain ⟨rfl, rfl⟩ := hq
    refine ⟨((pl_U xv 12 (if (pl_add u c v R).1 < 0 then (pl_add u c v R).1 else 0)), ((pl_add u c v R).2.1, (pl_add u c v R).2.2, g), ik, y, (f, 0, rw_), (cv, cb, cs, cwd), U, P, W, (cw_fr (pl_add u c v R).1 fr), I0, I1), rfl, rfl, ?_⟩
    refine im_r rfl rfl trivial rfl ?_
    first | (exact ⟨fun _ => ⟨rfl, rfl⟩, fun hz => (by omega)⟩) | (exact ⟨fun hz => (by omega), fun _ => ⟨rfl, rfl⟩⟩)
set_option maxHeartbeats 8000000 in
theorem cw_act (hd : 7 ≤ d) (hT : T.length < 1000) {lw : Option im_T} (h : LOK v R) (hday : R 7 0 ≤ 100000) (hl : LWR v g T lw) (hcb : cb = 0 ∨ cb = 1) (hcs : SOK cs) (hcwd : WOK cwd) (hf : 0 ≤ f ∧ f ≤ 16) (hk : 0 ≤ k ∧ k ≤ 16) {kind a b n : Int} (hkd : 0 ≤ kind ∧ kind ≤ 3) (ha : im_ir a) (hb : im_ir b) (hn : im_ir n) : im_ct ro T d 116 [mr 0, .inl kind, .inl a, .inl b, .inl n] (CW (xv, (v, R, g), ik, y, (f, k, rw_), (cv, cb, cs, cwd), U, P, W, fr, I0, I1)) (fun r w => r = some (.inl (pl_act lw kind a b n v R).1) ∧ ∃ cv1 cb1 cs1 cwd1, (cb1 = 0 ∨ cb1 = 1) ∧ SOK cs1 ∧ WOK cwd1 ∧ ((pl_act lw kind a b n v R).1 < 0 → w = CW ((pl_U xv 12 (if (pl_act lw kind a b n v R).1 < 0 then (pl_act lw kind a b n v R).1 else 0)), ((pl_act lw kind a b n v R).2.1, (pl_act lw kind a b n v R).2.2, g), ik, y, (f, k, pt_note (pt_at f k) kind v R rw_), (cv1, cb1, cs1, cwd1), U, P, W, (cw_fr (pl_act lw kind a b n v R).1 fr), I0, I1)) ∧ (0 ≤ (pl_act lw kind a b n v R).1 → w = CW ((pl_U xv 12 (if (pl_act lw kind a b n v R).1 < 0 then (pl_act lw kind a b n v R).1 else 0)), ((pl_act lw kind a b n v R).2.1, (pl_act lw kind a b n v R).2.2, g), ik, y, ((pt_keep f k).1, (pt_keep f k).2, pt_note (pt_at f k) kind v R rw_), (cv1, cb1, cs1, cwd1), U, P, W, (cw_fr (pl_act lw kind a b n v R).1 fr), I0, I1))) := by
  obtain ⟨d, rfl⟩ : ∃ e, d = e + 1 := ⟨d - 1, by omega⟩
  have hbd := cw_send_bd lw h kind a b n
  refine im_ct_of (own := 8) (ret := (some .int)) (code := ab_k_X8_actNow) (nL := 6) (L0 := [some (mr 0), some (.inl kind), some (.inl a), some (.inl b), some (.inl n), none]) (n := 95) rfl rfl rfl rfl rfl rfl rfl rfl rfl ?_
  refine im_g 5 (y := (9, _, _, _)) rfl trivial ?_
  refine im_cQL rfl rfl (c_note (f := f) (k := k) (rw := rw_) (v := v) (R := R) (g := g) (kind := kind) (by omega) hT hf hk) rfl hT (fun v1 w1 hq => ?_)
  obtain ⟨rfl, rfl⟩ := hq
  refine ⟨_, _, _, _, _, _, _, rfl, rfl, ?_⟩
  refine im_g 8 (y := (25, _, _, _)) rfl trivial ?_
  refine im_cLC rfl rfl (c_act (v := v) (R := R) (g := g) (lw := lw) (cv := cv) (b := cb) (s := cs) (wd := cwd) (kind := kind) (a := a) (b2 := b) (n := n) (by omega) hT h hday hl hcb hcs hcwd hkd ha hb hn) rfl hT (fun v1 w1 hq => ?_)
  obtain ⟨rfl, cv1, cb1, cs1, cwd1, hb1, hs1, hw1, rfl⟩ := hq
  refine ⟨_, _, _, _, _, _, _, _, rfl, rfl, ?_⟩
  refine im_g 2 (y := (32, _, _, _)) rfl trivial ?_
  refine im_b rfl rfl ⟨(by omega), trivial⟩ (fun j1 => ?_) (fun j1 => ?_)
  · refine im_g 2 (y := (45, _, _, _)) rfl trivial ?_
    refine im_eqs (y := (45, _, _, CW (xv, ((pl_act lw kind a b n v R).2.1, (pl_act lw kind a b n v R).2.2, g), ik, y, (f, k, pt_note (pt_at f k) kind v R rw_), (cv1, cb1, cs1, cwd1), U, P, W, fr, I0, I1))) rfl ?_
    refine im_cX rfl rfl (cw_settle (x := (pl_act lw kind a b n v R).1) (by omega) hT hbd) rfl hT (fun v1 w1 hq => ?_)
    obtain ⟨rfl, rfl⟩ := hq
    refine ⟨((pl_U xv 12 (if (pl_act lw kind a b n v R).1 < 0 then (pl_act lw kind a b n v R).1 else 0)), ((pl_act lw kind a b n v R).2.1, (pl_act lw kind a b n v R).2.2, g), ik, y, (f, k, pt_note (pt_at f k) kind v R rw_), (cv1, cb1, cs1, cwd1), U, P, W, (cw_fr (pl_act lw kind a b n v R).1 fr), I0, I1), rfl, rfl, ?_⟩
    refine im_r rfl rfl trivial rfl ?_
    first | (exact ⟨rfl, cv1, cb1, cs1, cwd1, hb1, hs1, hw1, fun _ => rfl, fun hz => (by omega)⟩) | (exact ⟨rfl, cv1, cb1, cs1, cwd1, hb1, hs1, hw1, fun hz => (by omega), fun _ => rfl⟩)
  · refine im_g 2 (y := (39, _, _, _)) rfl trivial ?_
    refine im_cQ rfl rfl (c_keep (f := f) (k := k) (rw := pt_note (pt_at f k) kind v R rw_) (by omega) hT hf hk) rfl hT (fun v1 w1 hq => ?_)
    obtain ⟨rfl, rfl⟩ := hq
    refine ⟨_, _, _, _, rfl, rfl, ?_⟩
    refine im_g 2 (y := (45, _, _, _)) rfl trivial ?_
    refine im_eqs (y := (45, _, _, CW (xv, ((pl_act lw kind a b n v R).2.1, (pl_act lw kind a b n v R).2.2, g), ik, y, ((pt_keep f k).1, (pt_keep f k).2, pt_note (pt_at f k) kind v R rw_), (cv1, cb1, cs1, cwd1), U, P, W, fr, I0, I1))) rfl ?_
    refine im_cX rfl rfl (cw_settle (x := (pl_act lw kind a b n v R).1) (by omega) hT hbd) rfl hT (fun v1 w1 hq => ?_)
    obtain ⟨rfl, rfl⟩ := hq
    refine ⟨((pl_U xv 12 (if (pl_act lw kind a b n v R).1 < 0 then (pl_act lw kind a b n v R).1 else 0)), ((pl_act lw kind a b n v R).2.1, (pl_act lw kind a b n v R).2.2, g), ik, y, ((pt_keep f k).1, (pt_keep f k).2, pt_note (pt_at f k) kind v R rw_), (cv1, cb1, cs1, cwd1), U, P, W, (cw_fr (pl_act lw kind a b n v R).1 fr), I0, I1), rfl, rfl, ?_⟩
    refine im_r rfl rfl trivial rfl ?_
    first | (exact ⟨rfl, cv1, cb1, cs1, cwd1, hb1, hs1, hw1, fun _ => rfl, fun hz => (by omega)⟩) | (exact ⟨rfl, cv1, cb1, cs1, cwd1, hb1, hs1, hw1, fun hz => (by omega), fun _ => rfl⟩)
end Cc
