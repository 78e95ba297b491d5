/-! the class's calls: the tape -/
/-- five numbers put on a tape -/
def cw_fd (b : Int) (x1 x2 x3 x4 x5 : Int) (A : Int → Int) : Int → Int := ob_four x5 (b + 4 + 4 + 4 + 4) (ob_four x4 (b + 4 + 4 + 4) (ob_four x3 (b + 4 + 4) (ob_four x2 (b + 4) (ob_four x1 b A 4) 4) 4) 4) 4
theorem im_3 {α β γ δ : Type} (F : α → β → γ → δ) {a a' : α} {b b' : β} {c c' : γ} (e1 : a = a') (e2 : b = b') (e3 : c = c') : F a b c = F a' b' c' := by rw [e1, e2, e3]
section Cj
variable {ro : ab_R} {T : List im_T} {d : Nat} {xv : Nat → Int} {v : Nat → Int} {R : Nat → Int → Int} {g : Int → Option Nat} {ik : Int → Int} {y : cw_L} {f k : Int} {rw_ : Int → Int} {cv : Nat → Int} {cb : Int} {cs cwd : Int → Int} {U : cw_U} {P : cw_P} {wq : Nat → Int} {wA : Int → Int} {wu : Int × Int × Int} {wc wk : Int → Int} {fr : Int → Int} {I0 I1 : cw_L}
set_option maxHeartbeats 8000000 in
theorem cw_feed (hd : 2 ≤ d) (hT : T.length < 1000) (hb0 : 0 ≤ xv 0 ∧ xv 0 ≤ 400) {x1 x2 x3 x4 x5 : Int} : im_ct ro T d 84 [mr 0, .inl x1, .inl x2, .inl x3, .inl x4, .inl x5] (CW (xv, (v, R, g), ik, y, (f, k, rw_), (cv, cb, cs, cwd), U, P, (wq, wA, wu, wc, wk), fr, I0, I1)) (fun r w => (¬ xv 0 ≤ 380 → r = some (.inl (-1)) ∧ w = CW (xv, (v, R, g), ik, y, (f, k, rw_), (cv, cb, cs, cwd), U, P, (wq, wA, wu, wc, wk), fr, I0, I1)) ∧ (xv 0 ≤ 380 → r = some (.inl (xv 0 + 4 + 4 + 4 + 4 + 4)) ∧ w = CW ((pl_U xv 0 (xv 0 + 4 + 4 + 4 + 4 + 4)), (v, R, g), ik, y, (f, k, rw_), (cv, cb, cs, cwd), U, P, (wq, (cw_fd (xv 0) x1 x2 x3 x4 x5 wA), wu, wc, wk), fr, I0, I1))) := by
  obtain ⟨d, rfl⟩ : ∃ e, d = e + 1 := ⟨d - 1, by omega⟩
  refine im_ct_of (own := 8) (ret := (some .int)) (code := ab_k_X8_feed) (nL := 6) (L0 := [some (mr 0), some (.inl x1), some (.inl x2), some (.inl x3), some (.inl x4), some (.inl x5)]) (n := 95) rfl rfl rfl rfl rfl rfl rfl rfl rfl ?_
  refine im_g 5 (y := (10, _, _, _)) rfl trivial ?_
  refine im_b rfl rfl ⟨(by omega), (by omega), trivial⟩ (fun j1 => ?_) (fun j1 => ?_)
  · refine im_g 2 (y := (17, _, _, _)) rfl trivial ?_
    refine im_call [0,65,66] rfl rfl (c_putFour (b := xv 0) (yk := xv 5) (lr := xv 12) (fa := xv 13) (so := xv 14) (sn := xv 15) (by omega) hT (x := x1) (by omega) (v := wq) (A := wA)) rfl rfl rfl (by decide) rfl (by decide) hT (fun v1 w1 hq => ?_)
    obtain ⟨rfl, rfl⟩ := hq
    refine ⟨_, _, CW ((pl_U xv 0 (xv 0 + 4)), (v, R, g), ik, y, (f, k, rw_), (cv, cb, cs, cwd), U, P, (wq, (ob_four x1 (xv 0) wA 4), wu, wc, wk), fr, I0, I1), rfl, rfl, rfl, ?_⟩
    refine im_g 2 (y := (22, _, _, _)) rfl trivial ?_
    refine im_call [0,65,66] rfl rfl (c_putFour (b := xv 0 + 4) (yk := xv 5) (lr := xv 12) (fa := xv 13) (so := xv 14) (sn := xv 15) (by omega) hT (x := x2) (by omega) (v := wq) (A := (ob_four x1 (xv 0) wA 4))) rfl rfl rfl (by decide) rfl (by decide) hT (fun v1 w1 hq => ?_)
    obtain ⟨rfl, rfl⟩ := hq
    refine ⟨_, _, CW ((pl_U xv 0 (xv 0 + 4 + 4)), (v, R, g), ik, y, (f, k, rw_), (cv, cb, cs, cwd), U, P, (wq, (ob_four x2 (xv 0 + 4) (ob_four x1 (xv 0) wA 4) 4), wu, wc, wk), fr, I0, I1), rfl, rfl, rfl, ?_⟩
    refine im_g 2 (y := (27, _, _, _)) rfl trivial ?_
    refine im_call [0,65,66] rfl rfl (c_putFour (b := xv 0 + 4 + 4) (yk := xv 5) (lr := xv 12) (fa := xv 13) (so := xv 14) (sn := xv 15) (by omega) hT (x := x3) (by omega) (v := wq) (A := (ob_four x2 (xv 0 + 4) (ob_four x1 (xv 0) wA 4) 4))) rfl rfl rfl (by decide) rfl (by decide) hT (fun v1 w1 hq => ?_)
    obtain ⟨rfl, rfl⟩ := hq
    refine ⟨_, _, CW ((pl_U xv 0 (xv 0 + 4 + 4 + 4)), (v, R, g), ik, y, (f, k, rw_), (cv, cb, cs, cwd), U, P, (wq, (ob_four x3 (xv 0 + 4 + 4) (ob_four x2 (xv 0 + 4) (ob_four x1 (xv 0) wA 4) 4) 4), wu, wc, wk), fr, I0, I1), rfl, rfl, rfl, ?_⟩
    refine im_g 2 (y := (33, _, _, _)) rfl trivial ?_
    refine im_call [0,65,66] rfl rfl (c_putFour (b := xv 0 + 4 + 4 + 4) (yk := xv 5) (lr := xv 12) (fa := xv 13) (so := xv 14) (sn := xv 15) (by omega) hT (x := x4) (by omega) (v := wq) (A := (ob_four x3 (xv 0 + 4 + 4) (ob_four x2 (xv 0 + 4) (ob_four x1 (xv 0) wA 4) 4) 4))) rfl rfl rfl (by decide) rfl (by decide) hT (fun v1 w1 hq => ?_)
    obtain ⟨rfl, rfl⟩ := hq
    refine ⟨_, _, CW ((pl_U xv 0 (xv 0 + 4 + 4 + 4 + 4)), (v, R, g), ik, y, (f, k, rw_), (cv, cb, cs, cwd), U, P, (wq, (ob_four x4 (xv 0 + 4 + 4 + 4) (ob_four x3 (xv 0 + 4 + 4) (ob_four x2 (xv 0 + 4) (ob_four x1 (xv 0) wA 4) 4) 4) 4), wu, wc, wk), fr, I0, I1), rfl, rfl, rfl, ?_⟩
    refine im_g 2 (y := (39, _, _, _)) rfl trivial ?_
    refine im_call [0,65,66] rfl rfl (c_putFour (b := xv 0 + 4 + 4 + 4 + 4) (yk := xv 5) (lr := xv 12) (fa := xv 13) (so := xv 14) (sn := xv 15) (by omega) hT (x := x5) (by omega) (v := wq) (A := (ob_four x4 (xv 0 + 4 + 4 + 4) (ob_four x3 (xv 0 + 4 + 4) (ob_four x2 (xv 0 + 4) (ob_four x1 (xv 0) wA 4) 4) 4) 4))) rfl rfl rfl (by decide) rfl (by decide) hT (fun v1 w1 hq => ?_)
    obtain ⟨rfl, rfl⟩ := hq
    refine ⟨_, _, CW ((pl_U xv 0 (xv 0 + 4 + 4 + 4 + 4 + 4)), (v, R, g), ik, y, (f, k, rw_), (cv, cb, cs, cwd), U, P, (wq, (ob_four x5 (xv 0 + 4 + 4 + 4 + 4) (ob_four x4 (xv 0 + 4 + 4 + 4) (ob_four x3 (xv 0 + 4 + 4) (ob_four x2 (xv 0 + 4) (ob_four x1 (xv 0) wA 4) 4) 4) 4) 4), wu, wc, wk), fr, I0, I1), rfl, rfl, rfl, ?_⟩
    refine im_g 2 (y := (46, _, _, _)) rfl trivial ?_
    refine im_r rfl rfl trivial rfl ?_
    first | (exact ⟨fun _ => ⟨rfl, rfl⟩, fun hz => (by omega)⟩) | (exact ⟨fun hz => (by omega), fun _ => ⟨rfl, rfl⟩⟩)
  · refine im_g 1 (y := (14, _, _, _)) rfl trivial ?_
    refine im_r rfl rfl trivial rfl ?_
    first | (exact ⟨fun _ => ⟨rfl, rfl⟩, fun hz => (by omega)⟩) | (exact ⟨fun hz => (by omega), fun _ => ⟨rfl, rfl⟩⟩)
set_option maxHeartbeats 8000000 in
theorem cw_end (hd : 1 ≤ d) (hT : T.length < 1000) (hb0 : 0 ≤ xv 0 ∧ xv 0 ≤ 400) {n : Int} (hn : im_ir n) : im_ct ro T d 85 [mr 0, .inl n] (CW (xv, (v, R, g), ik, y, (f, k, rw_), (cv, cb, cs, cwd), U, P, (wq, wA, wu, wc, wk), fr, I0, I1)) (fun r w => (¬ (0 ≤ n ∧ n ≤ xv 0) → r = some (.inl (-1)) ∧ w = CW (xv, (v, R, g), ik, y, (f, k, rw_), (cv, cb, cs, cwd), U, P, (wq, wA, wu, wc, wk), fr, I0, I1)) ∧ ((0 ≤ n ∧ n ≤ xv 0) → r = some (.inl n) ∧ w = CW ((pl_U xv 0 n), (v, R, g), ik, y, (f, k, rw_), (cv, cb, cs, cwd), U, P, (wq, wA, wu, wc, wk), fr, I0, I1))) := by
  obtain ⟨d, rfl⟩ : ∃ e, d = e + 1 := ⟨d - 1, by omega⟩
  refine im_ct_of (own := 8) (ret := (some .int)) (code := ab_k_X8_end) (nL := 2) (L0 := [some (mr 0), some (.inl n)]) (n := 95) rfl rfl rfl rfl rfl rfl rfl rfl rfl ?_
  refine im_g 1 (y := (1, _, _, _)) rfl trivial ?_
  refine im_b rfl rfl ⟨(by omega), trivial⟩ (fun j1 => ?_) (fun j1 => ?_)
  · refine im_g 1 (y := (13, _, _, _)) rfl trivial ?_
    refine im_r rfl rfl trivial rfl ?_
    first | (exact ⟨fun _ => ⟨rfl, rfl⟩, fun hz => (by omega)⟩) | (exact ⟨fun hz => (by omega), fun _ => ⟨rfl, rfl⟩⟩)
  · refine im_g 3 (y := (9, _, _, _)) rfl trivial ?_
    refine im_b rfl rfl ⟨(by omega), (by omega), trivial⟩ (fun j2 => ?_) (fun j2 => ?_)
    · refine im_g 4 (y := (20, _, _, _)) rfl trivial ?_
      refine im_r rfl rfl trivial rfl ?_
      first | (exact ⟨fun _ => ⟨rfl, rfl⟩, fun hz => (by omega)⟩) | (exact ⟨fun hz => (by omega), fun _ => ⟨rfl, rfl⟩⟩)
    · refine im_g 1 (y := (13, _, _, _)) rfl trivial ?_
      refine im_r rfl rfl trivial rfl ?_
      first | (exact ⟨fun _ => ⟨rfl, rfl⟩, fun hz => (by omega)⟩) | (exact ⟨fun hz => (by omega), fun _ => ⟨rfl, rfl⟩⟩)
set_option maxHeartbeats 8000000 in
theorem cw_row (hd : 3 ≤ d) (hT : T.length < 1000) (h : LOK v R) (hA : ∀ i, 0 ≤ wA i ∧ wA i ≤ 255) (hb0 : 0 ≤ xv 0 ∧ xv 0 ≤ 400) : im_ct ro T d 86 [mr 0] (CW (xv, (v, R, g), ik, y, (f, k, rw_), (cv, cb, cs, cwd), U, P, (wq, wA, wu, wc, wk), fr, I0, I1)) (fun r w => (xv 0 = 0 → r = some (.inl (-6)) ∧ w = CW ((pl_U xv 12 (if (-6) < 0 then (-6) else 0)), (v, R, g), ik, y, (f, k, rw_), (cv, cb, cs, cwd), U, P, (wq, wA, wu, wc, wk), (cw_fr (-6) fr), I0, I1)) ∧ (¬ xv 0 = 0 → r = some (.inl (rk wA (xv 0) v R (rk_n (xv 0))).1.1) ∧ w = CW ((pl_U (pl_U (pl_U xv 0 0) 15 (rk wA (xv 0) v R (rk_n (xv 0))).1.2) 12 (if (rk wA (xv 0) v R (rk_n (xv 0))).1.1 < 0 then (rk wA (xv 0) v R (rk_n (xv 0))).1.1 else 0)), ((rk wA (xv 0) v R (rk_n (xv 0))).2.1, (rk wA (xv 0) v R (rk_n (xv 0))).2.2, g), ik, y, (f, 0, rw_), (cv, cb, cs, cwd), U, P, (wq, wA, wu, wc, wk), (cw_fr (rk wA (xv 0) v R (rk_n (xv 0))).1.1 fr), I0, I1))) := by
  obtain ⟨d, rfl⟩ : ∃ e, d = e + 1 := ⟨d - 1, by omega⟩
  refine im_ct_of (own := 8) (ret := (some .int)) (code := ab_k_X8_row) (nL := 4) (L0 := [some (mr 0), none, none, none]) (n := 95) rfl rfl rfl rfl rfl rfl rfl rfl rfl ?_
  refine im_g 2 (y := (4, _, _, _)) rfl trivial ?_
  refine im_b rfl rfl ⟨(by omega), trivial⟩ (fun j1 => ?_) (fun j1 => ?_)
  · refine im_g 6 (y := (20, _, _, _)) rfl trivial ?_
    have hNe : (rk_n (xv 0) : Int) = (xv 0 + 2) / 3 := by
      unfold rk_n
      omega
    refine im_for (rk_n (xv 0)) (fun m : Nat => (20, [some (mr 0), some (.inl (rk wA (xv 0) v R m).1.1), some (.inl (rk wA (xv 0) v R m).1.2), some (.inl (3 * ((m : Nat) : Int)))], [], CW (xv, ((rk wA (xv 0) v R m).2.1, (rk wA (xv 0) v R m).2.2, g), ik, y, (f, k, rw_), (cv, cb, cs, cwd), U, P, (wq, wA, wu, wc, wk), fr, I0, I1))) (fun m hm ih => ?_) ?_
    · have hmi : (m : Int) < (xv 0 + 2) / 3 := by omega
      obtain ⟨hok, hc1, hc2⟩ := rk_ok (A := wA) (b := xv 0) h m
      refine im_g 3 (y := (25, _, _, _)) rfl trivial ?_
      refine im_bF rfl rfl ⟨(by omega), (by omega), trivial⟩ (by omega) ?_
      refine im_g 2 (y := (30, _, _, _)) rfl trivial ?_
      refine im_call [0,1,2,3,4,5,6,7,8,9,10,11,12,65,66] rfl rfl (c_fromTape (b := xv 0) (yk := xv 5) (lr := xv 12) (fa := xv 13) (so := xv 14) (sn := xv 15) (by omega) hT (a := 3 * (m : Int)) (by omega) hb0 (v := (rk wA (xv 0) v R m).2.1) (R := (rk wA (xv 0) v R m).2.2) (g := g) hok (rv := wq) (A := wA) hA) rfl rfl rfl (by decide) rfl (by decide) hT (fun v1 w1 hq => ?_)
      obtain ⟨rfl, rfl⟩ := hq
      refine ⟨_, _, CW (xv, ((ob_tape (3 * (m : Int)) (xv 0) wA (rk wA (xv 0) v R m).2.1 (rk wA (xv 0) v R m).2.2).2.1, (ob_tape (3 * (m : Int)) (xv 0) wA (rk wA (xv 0) v R m).2.1 (rk wA (xv 0) v R m).2.2).2.2, g), ik, y, (f, k, rw_), (cv, cb, cs, cwd), U, P, (wq, wA, wu, wc, wk), fr, I0, I1), rfl, rfl, rfl, ?_⟩
      have hz01 := (ob_tape_ok (at_ := 3 * (m : Int)) (b := xv 0) (A := wA) hok).2
      refine im_b rfl rfl ⟨(by omega), trivial⟩ (fun j2 => ?_) (fun j2 => ?_)
      · have hea : (rk wA (xv 0) v R m).1.1 = (rk wA (xv 0) v R (m + 1)).1.1 := by
          show (rk wA (xv 0) v R m).1.1 = (rk wA (xv 0) v R m).1.1 + (ob_tape (3 * (m : Int)) (xv 0) wA (rk wA (xv 0) v R m).2.1 (rk wA (xv 0) v R m).2.2).1
          omega
        have heb : (rk wA (xv 0) v R m).1.2 + 1 = (rk wA (xv 0) v R (m + 1)).1.2 := by
          show (rk wA (xv 0) v R m).1.2 + 1 = (rk wA (xv 0) v R m).1.2 + (1 - (ob_tape (3 * (m : Int)) (xv 0) wA (rk wA (xv 0) v R m).2.1 (rk wA (xv 0) v R m).2.2).1)
          omega
        refine im_g 3 (y := (20, _, _, _)) rfl trivial ?_
        have hec : 3 * (m : Int) + 3 = 3 * ((m + 1 : Nat) : Int) := by omega
        exact im_eqs (y := (20, [some (mr 0), some (.inl (rk wA (xv 0) v R (m + 1)).1.1), some (.inl (rk wA (xv 0) v R (m + 1)).1.2), some (.inl (3 * (((m + 1) : Nat) : Int)))], [], CW (xv, ((rk wA (xv 0) v R (m + 1)).2.1, (rk wA (xv 0) v R (m + 1)).2.2, g), ik, y, (f, k, rw_), (cv, cb, cs, cwd), U, P, (wq, wA, wu, wc, wk), fr, I0, I1))) (im_3 (fun (z1 z2 z3 : Int) => ((20, [some (mr 0), some (.inl z1), some (.inl z2), some (.inl z3)], [], CW (xv, ((rk wA (xv 0) v R (m + 1)).2.1, (rk wA (xv 0) v R (m + 1)).2.2, g), ik, y, (f, k, rw_), (cv, cb, cs, cwd), U, P, (wq, wA, wu, wc, wk), fr, I0, I1)) : im_S)) hea heb hec) ih
      · have hea : (rk wA (xv 0) v R m).1.1 + 1 = (rk wA (xv 0) v R (m + 1)).1.1 := by
          show (rk wA (xv 0) v R m).1.1 + 1 = (rk wA (xv 0) v R m).1.1 + (ob_tape (3 * (m : Int)) (xv 0) wA (rk wA (xv 0) v R m).2.1 (rk wA (xv 0) v R m).2.2).1
          omega
        have heb : (rk wA (xv 0) v R m).1.2 = (rk wA (xv 0) v R (m + 1)).1.2 := by
          show (rk wA (xv 0) v R m).1.2 = (rk wA (xv 0) v R m).1.2 + (1 - (ob_tape (3 * (m : Int)) (xv 0) wA (rk wA (xv 0) v R m).2.1 (rk wA (xv 0) v R m).2.2).1)
          omega
        refine im_g 4 (y := (20, _, _, _)) rfl trivial ?_
        have hec : 3 * (m : Int) + 3 = 3 * ((m + 1 : Nat) : Int) := by omega
        exact im_eqs (y := (20, [some (mr 0), some (.inl (rk wA (xv 0) v R (m + 1)).1.1), some (.inl (rk wA (xv 0) v R (m + 1)).1.2), some (.inl (3 * (((m + 1) : Nat) : Int)))], [], CW (xv, ((rk wA (xv 0) v R (m + 1)).2.1, (rk wA (xv 0) v R (m + 1)).2.2, g), ik, y, (f, k, rw_), (cv, cb, cs, cwd), U, P, (wq, wA, wu, wc, wk), fr, I0, I1))) (im_3 (fun (z1 z2 z3 : Int) => ((20, [some (mr 0), some (.inl z1), some (.inl z2), some (.inl z3)], [], CW (xv, ((rk wA (xv 0) v R (m + 1)).2.1, (rk wA (xv 0) v R (m + 1)).2.2, g), ik, y, (f, k, rw_), (cv, cb, cs, cwd), U, P, (wq, wA, wu, wc, wk), fr, I0, I1)) : im_S)) hea heb hec) ih
    · obtain ⟨hok, hc1, hc2⟩ := rk_ok (A := wA) (b := xv 0) h (rk_n (xv 0))
      refine im_g 3 (y := (25, _, _, _)) rfl trivial ?_
      refine im_bT rfl rfl ⟨(by omega), (by omega), trivial⟩ (by omega) ?_
      refine im_g 8 (y := (65, _, _, _)) rfl trivial ?_
      refine im_call [27,28] rfl rfl (c_clear (f := f) (k := k) (rw := rw_) (by omega) hT) rfl rfl rfl (by decide) rfl (by decide) hT (fun v1 w1 hq => ?_)
      obtain ⟨rfl, rfl⟩ := hq
      refine ⟨_, _, CW ((pl_U (pl_U xv 0 0) 15 (rk wA (xv 0) v R (rk_n (xv 0))).1.2), ((rk wA (xv 0) v R (rk_n (xv 0))).2.1, (rk wA (xv 0) v R (rk_n (xv 0))).2.2, g), ik, y, (f, 0, rw_), (cv, cb, cs, cwd), U, P, (wq, wA, wu, wc, wk), fr, I0, I1), rfl, rfl, rfl, ?_⟩
      refine im_g 2 (y := (70, _, _, _)) rfl trivial ?_
      refine im_eqs (y := (70, _, _, CW ((pl_U (pl_U xv 0 0) 15 (rk wA (xv 0) v R (rk_n (xv 0))).1.2), ((rk wA (xv 0) v R (rk_n (xv 0))).2.1, (rk wA (xv 0) v R (rk_n (xv 0))).2.2, g), ik, y, (f, 0, rw_), (cv, cb, cs, cwd), U, P, (wq, wA, wu, wc, wk), fr, I0, I1))) rfl ?_
      refine im_cX rfl rfl (cw_settle (x := (rk wA (xv 0) v R (rk_n (xv 0))).1.1) (by omega) hT (by omega)) rfl hT (fun v1 w1 hq => ?_)
      obtain ⟨rfl, rfl⟩ := hq
      refine ⟨((pl_U (pl_U (pl_U xv 0 0) 15 (rk wA (xv 0) v R (rk_n (xv 0))).1.2) 12 (if (rk wA (xv 0) v R (rk_n (xv 0))).1.1 < 0 then (rk wA (xv 0) v R (rk_n (xv 0))).1.1 else 0)), ((rk wA (xv 0) v R (rk_n (xv 0))).2.1, (rk wA (xv 0) v R (rk_n (xv 0))).2.2, g), ik, y, (f, 0, rw_), (cv, cb, cs, cwd), U, P, (wq, wA, wu, wc, wk), (cw_fr (rk wA (xv 0) v R (rk_n (xv 0))).1.1 fr), I0, I1), rfl, rfl, ?_⟩
      refine im_r rfl rfl trivial rfl ?_
      first | (exact ⟨fun _ => ⟨rfl, rfl⟩, fun hz => (by omega)⟩) | (exact ⟨fun hz => (by omega), fun _ => ⟨rfl, rfl⟩⟩)
  · refine im_g 2 (y := (10, _, _, _)) rfl trivial ?_
    refine im_eqs (y := (10, _, _, CW (xv, (v, R, g), ik, y, (f, k, rw_), (cv, cb, cs, cwd), U, P, (wq, wA, wu, wc, wk), fr, I0, I1))) rfl ?_
    refine im_cX rfl rfl (cw_settle (x := (-6)) (by omega) hT (by decide)) rfl hT (fun v1 w1 hq => ?_)
    obtain ⟨rfl, rfl⟩ := hq
    refine ⟨((pl_U xv 12 (if (-6) < 0 then (-6) else 0)), (v, R, g), ik, y, (f, k, rw_), (cv, cb, cs, cwd), U, P, (wq, wA, wu, wc, wk), (cw_fr (-6) fr), I0, I1), rfl, rfl, ?_⟩
    refine im_r rfl rfl trivial rfl ?_
    first | (exact ⟨fun _ => ⟨rfl, rfl⟩, fun hz => (by omega)⟩) | (exact ⟨fun hz => (by omega), fun _ => ⟨rfl, rfl⟩⟩)
end Cj
