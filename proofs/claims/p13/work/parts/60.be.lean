/-! the reference: the ten -/
/-- tenBy is told and taken back -/
theorem QB_30 {v v2 : Nat → Int} {R R2 : Nat → Int → Int} {x : Int} (h30 : v 30 = 0) (h : QB (pl_U v 30 x) R (MW v2 R2)) : QB v R (MW (pl_U v2 30 0) R2) := by
  obtain ⟨g, ge, b, o, c, a5, a, s, ov, h⟩ := h
  obtain ⟨h1, h2⟩ := MW_inj h
  refine ⟨g, ge, b, o, c, a5, a, s, ov, MW_ext (fun j hj => ?_) (fun j q1 q2 => h2 j q1 q2)⟩
  have t := h1 j hj
  by_cases e30 : j = 30
  · subst e30
    show (0 : Int) = v 30
    exact h30.symm
  · revert t
    unfold EV4 pl_U
    rw [if_neg e30, if_neg e30]
    exact id
section Be
variable {ro : ab_R} {T : List im_T} {d : Nat} {v : Nat → Int} {R : Nat → Int → Int} {lv : Nat → Int} {L : Nat → Int → Int} {lw : Option im_T}
def be_q (lw : Option im_T) (v : Nat → Int) (R : Nat → Int → Int) : Nat → Int × Int
  | 0 => (-1, 1000000)
  | m + 1 => if (on_all lw ((m : Int) + 2) (-1) 0 v R).1 6 < (be_q lw v R m).2 then ((m : Int) + 2, (on_all lw ((m : Int) + 2) (-1) 0 v R).1 6) else be_q lw v R m
theorem be_b (lw : Option im_T) {v : Nat → Int} {R : Nat → Int → Int} (h : LOK v R) : ∀ m, (-1 ≤ (be_q lw v R m).1 ∧ (be_q lw v R m).1 ≤ (m : Int) + 1) ∧ (0 ≤ (be_q lw v R m).2 ∧ (be_q lw v R m).2 ≤ 1000000)
  | 0 => by
    show (-1 ≤ (-1 : Int) ∧ (-1 : Int) ≤ ((0 : Nat) : Int) + 1) ∧ (0 ≤ (1000000 : Int) ∧ (1000000 : Int) ≤ 1000000)
    decide
  | m + 1 => by
    have ih := be_b lw h m
    have ho := (on_all_b (lw := lw) (ten := (m : Int) + 2) (c := -1) (y := 0) h (by intro q1 q2; omega)).1
    unfold be_q
    split
    · dsimp only; omega
    · omega
/-- the class's ten is the reference's -/
theorem be_fb (lw : Option im_T) {v : Nat → Int} {R : Nat → Int → Int} (h : LOK v R) : ∀ m, be_q lw v R (m + 1) = fb lw v R m
  | 0 => by
    have ho := (on_all_b (lw := lw) (ten := 2) (c := -1) (y := 0) h (by intro q1 q2; omega)).1
    have e : be_q lw v R 1 = if (on_all lw 2 (-1) 0 v R).1 6 < 1000000 then (2, (on_all lw 2 (-1) 0 v R).1 6) else (-1, 1000000) := rfl
    rw [e, if_pos (by omega)]
    rfl
  | m + 1 => by
    have ih := be_fb lw h m
    have e : be_q lw v R (m + 1 + 1) = if (on_all lw (((m + 1 : Nat) : Int) + 2) (-1) 0 v R).1 6 < (be_q lw v R (m + 1)).2 then (((m + 1 : Nat) : Int) + 2, (on_all lw (((m + 1 : Nat) : Int) + 2) (-1) 0 v R).1 6) else be_q lw v R (m + 1) := rfl
    rw [e, ih, show ((m + 1 : Nat) : Int) + 2 = (m : Int) + 3 by omega]
    rfl
set_option maxHeartbeats 8000000 in
theorem m_best (hd : 84 ≤ d) (hT : T.length < 1000) (ht : TLS v R lv L lw) (h30 : v 30 = 0) {wh : Int} (hw : im_ir wh) : im_ct ro T d 217 [mr 0, .inl wh] (MW v R) (fun r w => r = some (.inl (if 0 ≤ wh ∧ wh ≤ 1 then (if wh = 0 then (be_q lw lv L 98).1 else (be_q lw lv L 98).2) else -1)) ∧ QB v R w) := by
  obtain ⟨d, rfl⟩ : ∃ e, d = e + 1 := ⟨d - 1, by omega⟩
  have hpar := lk_par ht.2.1
  refine im_ct_of (own := 9) (ret := (some .int)) (code := ab_k_X9_best) (nL := 6) (L0 := [some (mr 0), some (.inl wh), none, none, none, none]) (n := 24) rfl rfl rfl rfl rfl rfl rfl rfl rfl ?_
  refine im_g 3 (y := (3, _, _, _)) rfl trivial ?_
  refine im_call [] rfl rfl (m_lies (x := wh) (a := 0) (b := 1) (by omega) hT (by omega) (by omega) (by omega)) rfl rfl rfl (by decide) rfl (by decide) hT (fun v1 w1 hq => ?_)
  obtain ⟨rfl, rfl⟩ := hq
  refine ⟨_, _, MW v R, rfl, rfl, rfl, ?_⟩
  refine im_b rfl rfl ⟨(by omega), trivial⟩ (fun br1 => ?_) (fun br1 => ?_)
  · have c6 : 0 ≤ wh ∧ wh ≤ 1 := by
      by_cases hh : 0 ≤ wh ∧ wh ≤ 1
      · exact hh
      · rw [if_neg hh] at br1; exact absurd rfl br1
    clear br1
    refine im_g 6 (y := (19, _, _, _)) rfl trivial ?_
    rw [if_pos c6]
    have key : ∀ (n m : Nat) (v' : Nat → Int) (R' : Nat → Int → Int) (x5 : Option im_V), m + n = 98 → QB v R (MW v' R') → R' 2 = R 2 → v' 30 = 0 → im_wp ro (ab_Ev ro ab_codes d) 9 (some .int) ab_k_X9_best 24 T (fun r w => r = some (.inl (if wh = 0 then (be_q lw lv L 98).1 else (be_q lw lv L 98).2)) ∧ QB v R w) (19, [some (mr 0), some (.inl wh), some (.inl (be_q lw lv L m).1), some (.inl (be_q lw lv L m).2), some (.inl ((m : Int) + 2)), x5], [], MW v' R') := by
      intro n
      induction n with
      | zero =>
        intro m v' R' x5 hm hQ h2 h3
        obtain rfl : m = 98 := by omega
        refine im_g 2 (y := (23, _, _, _)) rfl trivial ?_
        refine im_bT rfl rfl ⟨(by omega), (by omega), trivial⟩ (by omega) ?_
        refine im_g 1 (y := (67, _, _, _)) rfl trivial ?_
        refine im_b rfl rfl ⟨(by omega), trivial⟩ (fun br1 => ?_) (fun br1 => ?_)
        · refine im_g 1 (y := (75, _, _, _)) rfl trivial ?_
          refine im_r rfl rfl trivial rfl ?_
          rw [if_neg (by omega)]
          exact ⟨rfl, hQ⟩
        · refine im_g 2 (y := (75, _, _, _)) rfl trivial ?_
          refine im_r rfl rfl trivial rfl ?_
          rw [if_pos (by omega)]
          exact ⟨rfl, hQ⟩
      | succ n ih =>
        intro m v' R' x5 hm hQ h2 h3
        have htl : TLS (pl_U v' 30 ((m : Int) + 2)) R' lv L lw := by
          obtain ⟨x1, x2, x3, x4, x5, x6⟩ := ht
          unfold TLS
          rw [h2]
          exact ⟨x1, x2, x3, x4, x5, Or.inr (show 2 ≤ (m : Int) + 2 ∧ (m : Int) + 2 ≤ 99 by omega)⟩
        have hob := on_all_b (lw := lw) (ten := (m : Int) + 2) (c := -1) (y := 0) ht.2.1 (by intro q1 q2; omega)
        have hbb := be_b lw ht.2.1 m
        refine im_g 2 (y := (23, _, _, _)) rfl trivial ?_
        refine im_bF rfl rfl ⟨(by omega), (by omega), trivial⟩ (by omega) ?_
        refine im_g 6 (y := (35, _, _, _)) rfl trivial ?_
        refine im_cM rfl rfl (show im_ct ro T d 208 [mr 0, .inl (-1), .inl 0] (MW (pl_U v' 30 ((m : Int) + 2)) R') (fun r w => r = some (.inl ((on_all lw ((m : Int) + 2) (-1) 0 lv L).1 6)) ∧ QB (pl_U v' 30 ((m : Int) + 2)) R' w) from im_ct_mono (m_onceWith (v := pl_U v' 30 ((m : Int) + 2)) (R := R') (lv := lv) (L := L) (lw := lw) (by omega) hT htl (p := -1) (y := 0) (by omega) (by decide) (by intro q1 q2; omega)) (fun r w hq => ⟨hq.1, by obtain ⟨-, g, ge, b, o, c, a5, a, s, ov, e, -⟩ := hq; exact ⟨g, ge, b, o, c, a5, a, s, ov, e⟩⟩)) rfl hT (fun v1 w1 hq => ?_)
        obtain ⟨rfl, g, ge, b, o, c, a5, a, s, ov, rfl⟩ := hq
        refine ⟨(pl_U (EV4 (pl_U v' 30 ((m : Int) + 2)) g ge b o) 31 c), (pl_U (pl_U (pl_U (pl_U (pl_U R' 5 a5) 12 a) 16 s) 17 ov) 2 (R' 2)), rfl, rfl, ?_⟩
        have hQ2 : QB v R (MW (pl_U (pl_U (EV4 (pl_U v' 30 ((m : Int) + 2)) g ge b o) 31 c) 30 0) (pl_U (pl_U (pl_U (pl_U (pl_U R' 5 a5) 12 a) 16 s) 17 ov) 2 (R' 2))) := by
          obtain ⟨y1, y2, y3, y4, y5, y6, y7, y8, y9, hy⟩ := hQ
          have hz := QB_30 (x := (m : Int) + 2) h3 (v2 := (pl_U (EV4 (pl_U v' 30 ((m : Int) + 2)) g ge b o) 31 c)) (R2 := (pl_U (pl_U (pl_U (pl_U (pl_U R' 5 a5) 12 a) 16 s) 17 ov) 2 (R' 2))) (R := R') ⟨g, ge, b, o, c, a5, a, s, ov, rfl⟩
          obtain ⟨z1, z2, z3, z4, z5, z6, z7, z8, z9, hz⟩ := hz
          rw [hz]
          exact QB_t hy
        refine im_g 6 (y := (48, _, _, _)) rfl trivial ?_
        refine im_b rfl rfl ⟨(by omega), (by omega), trivial⟩ (fun br1 => ?_) (fun br1 => ?_)
        · refine im_g 6 (y := (19, _, _, _)) rfl trivial ?_
          have es : be_q lw lv L (m + 1) = ((m : Int) + 2, ((on_all lw ((m : Int) + 2) (-1) 0 lv L).1 6)) := if_pos (by omega)
          have t := ih (m + 1) (pl_U (pl_U (EV4 (pl_U v' 30 ((m : Int) + 2)) g ge b o) 31 c) 30 0) (pl_U (pl_U (pl_U (pl_U (pl_U R' 5 a5) 12 a) 16 s) 17 ov) 2 (R' 2)) (some (.inl ((on_all lw ((m : Int) + 2) (-1) 0 lv L).1 6))) (by omega) hQ2 h2 rfl
          rw [es, show (((m + 1 : Nat) : Int) + 2) = (m : Int) + 2 + 1 by omega] at t
          exact t
        · refine im_g 3 (y := (19, _, _, _)) rfl trivial ?_
          have es : be_q lw lv L (m + 1) = be_q lw lv L m := if_neg (by omega)
          have t := ih (m + 1) (pl_U (pl_U (EV4 (pl_U v' 30 ((m : Int) + 2)) g ge b o) 31 c) 30 0) (pl_U (pl_U (pl_U (pl_U (pl_U R' 5 a5) 12 a) 16 s) 17 ov) 2 (R' 2)) (some (.inl ((on_all lw ((m : Int) + 2) (-1) 0 lv L).1 6))) (by omega) hQ2 h2 rfl
          rw [es, show (((m + 1 : Nat) : Int) + 2) = (m : Int) + 2 + 1 by omega] at t
          exact t
    exact key 98 0 v R none (by decide) (QB_0 v R) rfl h30
  · have c6 : ¬ (0 ≤ wh ∧ wh ≤ 1) := by
      intro hh
      rw [if_pos hh] at br1
      exact br1 (by decide)
    clear br1
    refine im_g 1 (y := (10, _, _, _)) rfl trivial ?_
    refine im_r rfl rfl trivial rfl ?_
    rw [if_neg c6]
    exact ⟨rfl, QB_0 v R⟩
end Be
