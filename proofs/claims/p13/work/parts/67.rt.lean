/-! the reference reads clauses, texts -/
theorem RPq_w {A : Int → Int} {N : Int} {v : Nat → Int} {R : Nat → Int → Int} {res : dQ} {w : im_W} (h : RPq A N v R res w) : ∃ v2, w = MW v2 R := by
  match res, h with
  | .inl f, ⟨_, t, l, e⟩ => exact ⟨_, e⟩
  | .inr (j, l, q), ⟨_, _, e⟩ => exact ⟨_, e⟩
section Rt2
variable {ro : ab_R} {T : List im_T}
set_option maxHeartbeats 8000000 in
theorem r_clause {d : Nat} (hd : 76 ≤ d) (hT : T.length < 1000) {A : Int → Int} {N : Int} {v : Nat → Int} {R : Nat → Int → Int} {j l : Int} (hP : RPR false A N v R) (hj : 0 ≤ j ∧ j ≤ tk_nt A N) (hl : 0 ≤ l ∧ l ≤ 50) {n : Nat} {res : dQ} (hdn : d_law (tk_C A N) (tk_X A N) n j l = some res) : im_ct ro T d 157 [mr 0] (MW (PW v j l (-1)) R) (fun r w => r = none ∧ RPq A N v R res w) := by
  obtain ⟨d, rfl⟩ : ∃ e, d = e + 1 := ⟨d - 1, by omega⟩
  obtain ⟨hA, hN, hk, hv8, hv9, hv10⟩ := id hP
  have htn := (tk_nt_b (A := A) hN).1
  have hcb : 0 ≤ tk_C A N j ∧ tk_C A N j ≤ 355 := tk_code_b hA _ _
  refine im_ct_of (own := 9) (ret := none) (code := ab_k_X9_readClause) (nL := 1) (L0 := [some (mr 0)]) (n := 24) rfl rfl rfl rfl rfl rfl rfl rfl rfl ?_
  refine im_g 2 (y := (2, _, _, _)) rfl trivial ?_
  refine im_cM rfl rfl (r_takeA (v := v) (R := R) (A := A) (N := N) (i := j) (l := l) (c := 1) (by omega) hT hA hN hk hj (by decide)) rfl hT (fun v1 w1 hq => ?_)
  obtain ⟨rfl, rfl⟩ := hq
  refine ⟨(PW v (if tk_C A N j = 1 then j + 1 else j) l (-1)), R, rfl, rfl, ?_⟩
  refine im_b rfl rfl ⟨(by split <;> decide), trivial⟩ (fun br1 => ?_) (fun br1 => ?_)
  · have c5 : tk_C A N j = 1 := by
      by_cases hh : tk_C A N j = 1
      · exact hh
      · rw [if_neg hh] at br1; exact absurd rfl br1
    clear br1
    rw [if_pos c5]
    unfold d_law at hdn
    rw [if_pos (by omega)] at hdn
    have hlt := rq_lt (A := A) hN (i := j) (by omega)
    rcases d_bq_s hdn with ⟨f1, q1, hres⟩ | ⟨j1, l1, m1, q1, q3⟩
    · refine im_g 2 (y := (26, _, _, _)) rfl trivial ?_
      refine im_cM rfl rfl ((r_all (ro := ro) (T := T) hT n).2.2.1 d false v R A N 0 (j + 1) (l) _ hP (by decide) (by omega) (by omega) hl q1) rfl hT (fun v1 w1 hq => ?_)
      obtain ⟨rfl, hf1, t1, lz1, rfl⟩ := hq
      refine ⟨(PW v t1 lz1 (tk_Q A N f1)), R, rfl, rfl, ?_⟩
      refine im_g 3 (y := (39, _, _, _)) rfl trivial ?_
      refine im_cM rfl rfl (r_takeD (v := v) (R := R) (t := t1) (l := lz1) (b := (tk_Q A N f1)) (by omega) hT (rq_Q hN f1)) rfl hT (fun v1 w1 hq => ?_)
      obtain ⟨rfl, rfl⟩ := hq
      refine ⟨(PW v t1 lz1 (tk_Q A N f1)), R, rfl, rfl, ?_⟩
      refine im_bT rfl rfl ⟨(by decide), trivial⟩ rfl ?_
      refine im_r rfl rfl trivial rfl ?_
      rw [hres]
      exact ⟨rfl, hf1, t1, lz1, rfl⟩
    · have hj1 := rq_nt hN (by decide) (show 0 ≤ j + 1 ∧ j + 1 ≤ tk_nt A N by omega) q1
      refine im_g 2 (y := (26, _, _, _)) rfl trivial ?_
      refine im_cM rfl rfl ((r_all (ro := ro) (T := T) hT n).2.2.1 d false v R A N 0 (j + 1) (l) _ hP (by decide) (by omega) (by omega) hl q1) rfl hT (fun v1 w1 hq => ?_)
      obtain ⟨rfl, hlb1, rfl⟩ := hq
      refine ⟨(PW v j1 l1 (-1)), R, rfl, rfl, ?_⟩
      refine im_g 1 (y := (37, _, _, _)) rfl trivial ?_
      unfold d_if at q3
      by_cases h5 : tk_C A N j1 = 5
      · rw [if_pos h5] at q3
        have hlt5 := rq_lt (A := A) hN (i := j1) (by omega)
        rcases d_bq_s q3 with ⟨f5, q5, hres⟩ | ⟨j5, l5, m5, q5, q6⟩
        · refine im_g 2 (y := (39, _, _, _)) rfl trivial ?_
          refine im_cM rfl rfl (r_takeA (v := v) (R := R) (A := A) (N := N) (i := j1) (l := l1) (c := 5) (by omega) hT hA hN hk hj1 (by decide)) rfl hT (fun v1 w1 hq => ?_)
          obtain ⟨rfl, rfl⟩ := hq
          refine ⟨(PW v (if tk_C A N j1 = 5 then j1 + 1 else j1) l1 (-1)), R, rfl, rfl, ?_⟩
          rw [if_pos h5, if_pos h5]
          refine im_bF rfl rfl ⟨(by decide), trivial⟩ (by decide) ?_
          refine im_g 2 (y := (47, _, _, _)) rfl trivial ?_
          refine im_cM rfl rfl ((r_all (ro := ro) (T := T) hT n).2.2.2.2.2.1 d false v R A N 0 (j1 + 1) (l1) _ hP (by decide) (by omega) (by omega) hlb1 q5) rfl hT (fun v1 w1 hq => ?_)
          obtain ⟨rfl, hf5, t5, lz5, rfl⟩ := hq
          refine ⟨(PW v t5 lz5 (tk_Q A N f5)), R, rfl, rfl, ?_⟩
          refine im_r rfl rfl trivial rfl ?_
          rw [hres]
          exact ⟨rfl, hf5, t5, lz5, rfl⟩
        · refine im_g 2 (y := (39, _, _, _)) rfl trivial ?_
          refine im_cM rfl rfl (r_takeA (v := v) (R := R) (A := A) (N := N) (i := j1) (l := l1) (c := 5) (by omega) hT hA hN hk hj1 (by decide)) rfl hT (fun v1 w1 hq => ?_)
          obtain ⟨rfl, rfl⟩ := hq
          refine ⟨(PW v (if tk_C A N j1 = 5 then j1 + 1 else j1) l1 (-1)), R, rfl, rfl, ?_⟩
          rw [if_pos h5, if_pos h5]
          refine im_bF rfl rfl ⟨(by decide), trivial⟩ (by decide) ?_
          refine im_g 2 (y := (47, _, _, _)) rfl trivial ?_
          refine im_cM rfl rfl ((r_all (ro := ro) (T := T) hT n).2.2.2.2.2.1 d false v R A N 0 (j1 + 1) (l1) _ hP (by decide) (by omega) (by omega) hlb1 q5) rfl hT (fun v1 w1 hq => ?_)
          obtain ⟨rfl, hlb5, rfl⟩ := hq
          refine ⟨(PW v j5 l5 (-1)), R, rfl, rfl, ?_⟩
          refine im_r rfl rfl trivial rfl ?_
          have hres : ∃ c, res = .inr (j5, l5, c) := by cases q6; exact ⟨_, rfl⟩
          obtain ⟨c5, hres⟩ := hres
          rw [hres]
          exact ⟨rfl, hlb5, rq_nt hN (by decide) (show 0 ≤ j1 + 1 ∧ j1 + 1 ≤ tk_nt A N by omega) q5, rfl⟩
      · rw [if_neg h5] at q3
        refine im_g 2 (y := (39, _, _, _)) rfl trivial ?_
        refine im_cM rfl rfl (r_takeA (v := v) (R := R) (A := A) (N := N) (i := j1) (l := l1) (c := 5) (by omega) hT hA hN hk hj1 (by decide)) rfl hT (fun v1 w1 hq => ?_)
        obtain ⟨rfl, rfl⟩ := hq
        refine ⟨(PW v (if tk_C A N j1 = 5 then j1 + 1 else j1) l1 (-1)), R, rfl, rfl, ?_⟩
        rw [if_neg h5, if_neg h5]
        refine im_bT rfl rfl ⟨(by decide), trivial⟩ rfl ?_
        refine im_r rfl rfl trivial rfl ?_
        have hres : ∃ c, res = .inr (j1, l1, c) := by cases q3; exact ⟨_, rfl⟩
        obtain ⟨c5, hres⟩ := hres
        rw [hres]
        exact ⟨rfl, hlb1, hj1, rfl⟩
  · have c5 : ¬ (tk_C A N j = 1) := by
      intro hh
      rw [if_pos hh] at br1
      exact br1 (by decide)
    clear br1
    rw [if_neg c5]
    refine im_g 2 (y := (10, _, _, _)) rfl trivial ?_
    refine im_cM rfl rfl (r_takeA (v := v) (R := R) (A := A) (N := N) (i := j) (l := l) (c := 2) (by omega) hT hA hN hk hj (by decide)) rfl hT (fun v1 w1 hq => ?_)
    obtain ⟨rfl, rfl⟩ := hq
    refine ⟨(PW v (if tk_C A N j = 2 then j + 1 else j) l (-1)), R, rfl, rfl, ?_⟩
    refine im_b rfl rfl ⟨(by split <;> decide), trivial⟩ (fun br2 => ?_) (fun br2 => ?_)
    · have c13 : tk_C A N j = 2 := by
        by_cases hh : tk_C A N j = 2
        · exact hh
        · rw [if_neg hh] at br2; exact absurd rfl br2
      clear br2
      rw [if_pos c13]
      unfold d_law at hdn
      rw [if_pos (by omega)] at hdn
      have hlt := rq_lt (A := A) hN (i := j) (by omega)
      rcases d_bq_s hdn with ⟨f1, q1, hres⟩ | ⟨j1, l1, m1, q1, q3⟩
      · refine im_g 2 (y := (26, _, _, _)) rfl trivial ?_
        refine im_cM rfl rfl ((r_all (ro := ro) (T := T) hT n).2.2.1 d false v R A N 0 (j + 1) (l) _ hP (by decide) (by omega) (by omega) hl q1) rfl hT (fun v1 w1 hq => ?_)
        obtain ⟨rfl, hf1, t1, lz1, rfl⟩ := hq
        refine ⟨(PW v t1 lz1 (tk_Q A N f1)), R, rfl, rfl, ?_⟩
        refine im_g 3 (y := (39, _, _, _)) rfl trivial ?_
        refine im_cM rfl rfl (r_takeD (v := v) (R := R) (t := t1) (l := lz1) (b := (tk_Q A N f1)) (by omega) hT (rq_Q hN f1)) rfl hT (fun v1 w1 hq => ?_)
        obtain ⟨rfl, rfl⟩ := hq
        refine ⟨(PW v t1 lz1 (tk_Q A N f1)), R, rfl, rfl, ?_⟩
        refine im_bT rfl rfl ⟨(by decide), trivial⟩ rfl ?_
        refine im_r rfl rfl trivial rfl ?_
        rw [hres]
        exact ⟨rfl, hf1, t1, lz1, rfl⟩
      · have hj1 := rq_nt hN (by decide) (show 0 ≤ j + 1 ∧ j + 1 ≤ tk_nt A N by omega) q1
        refine im_g 2 (y := (26, _, _, _)) rfl trivial ?_
        refine im_cM rfl rfl ((r_all (ro := ro) (T := T) hT n).2.2.1 d false v R A N 0 (j + 1) (l) _ hP (by decide) (by omega) (by omega) hl q1) rfl hT (fun v1 w1 hq => ?_)
        obtain ⟨rfl, hlb1, rfl⟩ := hq
        refine ⟨(PW v j1 l1 (-1)), R, rfl, rfl, ?_⟩
        refine im_g 1 (y := (37, _, _, _)) rfl trivial ?_
        unfold d_if at q3
        by_cases h5 : tk_C A N j1 = 5
        · rw [if_pos h5] at q3
          have hlt5 := rq_lt (A := A) hN (i := j1) (by omega)
          rcases d_bq_s q3 with ⟨f5, q5, hres⟩ | ⟨j5, l5, m5, q5, q6⟩
          · refine im_g 2 (y := (39, _, _, _)) rfl trivial ?_
            refine im_cM rfl rfl (r_takeA (v := v) (R := R) (A := A) (N := N) (i := j1) (l := l1) (c := 5) (by omega) hT hA hN hk hj1 (by decide)) rfl hT (fun v1 w1 hq => ?_)
            obtain ⟨rfl, rfl⟩ := hq
            refine ⟨(PW v (if tk_C A N j1 = 5 then j1 + 1 else j1) l1 (-1)), R, rfl, rfl, ?_⟩
            rw [if_pos h5, if_pos h5]
            refine im_bF rfl rfl ⟨(by decide), trivial⟩ (by decide) ?_
            refine im_g 2 (y := (47, _, _, _)) rfl trivial ?_
            refine im_cM rfl rfl ((r_all (ro := ro) (T := T) hT n).2.2.2.2.2.1 d false v R A N 0 (j1 + 1) (l1) _ hP (by decide) (by omega) (by omega) hlb1 q5) rfl hT (fun v1 w1 hq => ?_)
            obtain ⟨rfl, hf5, t5, lz5, rfl⟩ := hq
            refine ⟨(PW v t5 lz5 (tk_Q A N f5)), R, rfl, rfl, ?_⟩
            refine im_r rfl rfl trivial rfl ?_
            rw [hres]
            exact ⟨rfl, hf5, t5, lz5, rfl⟩
          · refine im_g 2 (y := (39, _, _, _)) rfl trivial ?_
            refine im_cM rfl rfl (r_takeA (v := v) (R := R) (A := A) (N := N) (i := j1) (l := l1) (c := 5) (by omega) hT hA hN hk hj1 (by decide)) rfl hT (fun v1 w1 hq => ?_)
            obtain ⟨rfl, rfl⟩ := hq
            refine ⟨(PW v (if tk_C A N j1 = 5 then j1 + 1 else j1) l1 (-1)), R, rfl, rfl, ?_⟩
            rw [if_pos h5, if_pos h5]
            refine im_bF rfl rfl ⟨(by decide), trivial⟩ (by decide) ?_
            refine im_g 2 (y := (47, _, _, _)) rfl trivial ?_
            refine im_cM rfl rfl ((r_all (ro := ro) (T := T) hT n).2.2.2.2.2.1 d false v R A N 0 (j1 + 1) (l1) _ hP (by decide) (by omega) (by omega) hlb1 q5) rfl hT (fun v1 w1 hq => ?_)
            obtain ⟨rfl, hlb5, rfl⟩ := hq
            refine ⟨(PW v j5 l5 (-1)), R, rfl, rfl, ?_⟩
            refine im_r rfl rfl trivial rfl ?_
            have hres : ∃ c, res = .inr (j5, l5, c) := by cases q6; exact ⟨_, rfl⟩
            obtain ⟨c5, hres⟩ := hres
            rw [hres]
            exact ⟨rfl, hlb5, rq_nt hN (by decide) (show 0 ≤ j1 + 1 ∧ j1 + 1 ≤ tk_nt A N by omega) q5, rfl⟩
        · rw [if_neg h5] at q3
          refine im_g 2 (y := (39, _, _, _)) rfl trivial ?_
          refine im_cM rfl rfl (r_takeA (v := v) (R := R) (A := A) (N := N) (i := j1) (l := l1) (c := 5) (by omega) hT hA hN hk hj1 (by decide)) rfl hT (fun v1 w1 hq => ?_)
          obtain ⟨rfl, rfl⟩ := hq
          refine ⟨(PW v (if tk_C A N j1 = 5 then j1 + 1 else j1) l1 (-1)), R, rfl, rfl, ?_⟩
          rw [if_neg h5, if_neg h5]
          refine im_bT rfl rfl ⟨(by decide), trivial⟩ rfl ?_
          refine im_r rfl rfl trivial rfl ?_
          have hres : ∃ c, res = .inr (j1, l1, c) := by cases q3; exact ⟨_, rfl⟩
          obtain ⟨c5, hres⟩ := hres
          rw [hres]
          exact ⟨rfl, hlb1, hj1, rfl⟩
    · have c13 : ¬ (tk_C A N j = 2) := by
        intro hh
        rw [if_pos hh] at br2
        exact br2 (by decide)
      clear br2
      rw [if_neg c13]
      refine im_g 2 (y := (18, _, _, _)) rfl trivial ?_
      refine im_cM rfl rfl (r_takeA (v := v) (R := R) (A := A) (N := N) (i := j) (l := l) (c := 3) (by omega) hT hA hN hk hj (by decide)) rfl hT (fun v1 w1 hq => ?_)
      obtain ⟨rfl, rfl⟩ := hq
      refine ⟨(PW v (if tk_C A N j = 3 then j + 1 else j) l (-1)), R, rfl, rfl, ?_⟩
      refine im_b rfl rfl ⟨(by split <;> decide), trivial⟩ (fun br3 => ?_) (fun br3 => ?_)
      · have c21 : ¬ (tk_C A N j = 3) := by
          intro hh
          rw [if_pos hh] at br3
          exact absurd br3 (by decide)
        clear br3
        rw [if_neg c21]
        unfold d_law at hdn
        rw [if_neg (by omega)] at hdn
        by_cases h4 : tk_C A N j = 4
        · rw [if_pos h4] at hdn
          have hlt := rq_lt (A := A) hN (i := j) (by omega)
          have hj1 : 0 ≤ j + 1 ∧ j + 1 ≤ tk_nt A N := by omega
          refine im_g 2 (y := (34, _, _, _)) rfl trivial ?_
          refine im_cM rfl rfl (r_mustY (v := v) (R := R) (A := A) (N := N) (i := j) (l := l) (c := 4) (by omega) hT hA hN hk hj (by decide) h4) rfl hT (fun v1 w1 hq => ?_)
          obtain ⟨rfl, rfl⟩ := hq
          refine ⟨(PW v (j + 1) l (-1)), R, rfl, rfl, ?_⟩
          unfold d_if at hdn
          by_cases h5 : tk_C A N (j + 1) = 5
          · rw [if_pos h5] at hdn
            have hlt5 := rq_lt (A := A) hN (i := (j + 1)) (by omega)
            rcases d_bq_s hdn with ⟨f5, q5, hres⟩ | ⟨j5, l5, m5, q5, q6⟩
            · refine im_g 2 (y := (39, _, _, _)) rfl trivial ?_
              refine im_cM rfl rfl (r_takeA (v := v) (R := R) (A := A) (N := N) (i := (j + 1)) (l := l) (c := 5) (by omega) hT hA hN hk hj1 (by decide)) rfl hT (fun v1 w1 hq => ?_)
              obtain ⟨rfl, rfl⟩ := hq
              refine ⟨(PW v (if tk_C A N (j + 1) = 5 then (j + 1) + 1 else (j + 1)) l (-1)), R, rfl, rfl, ?_⟩
              rw [if_pos h5, if_pos h5]
              refine im_bF rfl rfl ⟨(by decide), trivial⟩ (by decide) ?_
              refine im_g 2 (y := (47, _, _, _)) rfl trivial ?_
              refine im_cM rfl rfl ((r_all (ro := ro) (T := T) hT n).2.2.2.2.2.1 d false v R A N 0 ((j + 1) + 1) (l) _ hP (by decide) (by omega) (by omega) hl q5) rfl hT (fun v1 w1 hq => ?_)
              obtain ⟨rfl, hf5, t5, lz5, rfl⟩ := hq
              refine ⟨(PW v t5 lz5 (tk_Q A N f5)), R, rfl, rfl, ?_⟩
              refine im_r rfl rfl trivial rfl ?_
              rw [hres]
              exact ⟨rfl, hf5, t5, lz5, rfl⟩
            · refine im_g 2 (y := (39, _, _, _)) rfl trivial ?_
              refine im_cM rfl rfl (r_takeA (v := v) (R := R) (A := A) (N := N) (i := (j + 1)) (l := l) (c := 5) (by omega) hT hA hN hk hj1 (by decide)) rfl hT (fun v1 w1 hq => ?_)
              obtain ⟨rfl, rfl⟩ := hq
              refine ⟨(PW v (if tk_C A N (j + 1) = 5 then (j + 1) + 1 else (j + 1)) l (-1)), R, rfl, rfl, ?_⟩
              rw [if_pos h5, if_pos h5]
              refine im_bF rfl rfl ⟨(by decide), trivial⟩ (by decide) ?_
              refine im_g 2 (y := (47, _, _, _)) rfl trivial ?_
              refine im_cM rfl rfl ((r_all (ro := ro) (T := T) hT n).2.2.2.2.2.1 d false v R A N 0 ((j + 1) + 1) (l) _ hP (by decide) (by omega) (by omega) hl q5) rfl hT (fun v1 w1 hq => ?_)
              obtain ⟨rfl, hlb5, rfl⟩ := hq
              refine ⟨(PW v j5 l5 (-1)), R, rfl, rfl, ?_⟩
              refine im_r rfl rfl trivial rfl ?_
              have hres : ∃ c, res = .inr (j5, l5, c) := by cases q6; exact ⟨_, rfl⟩
              obtain ⟨c5, hres⟩ := hres
              rw [hres]
              exact ⟨rfl, hlb5, rq_nt hN (by decide) (show 0 ≤ (j + 1) + 1 ∧ (j + 1) + 1 ≤ tk_nt A N by omega) q5, rfl⟩
          · rw [if_neg h5] at hdn
            refine im_g 2 (y := (39, _, _, _)) rfl trivial ?_
            refine im_cM rfl rfl (r_takeA (v := v) (R := R) (A := A) (N := N) (i := (j + 1)) (l := l) (c := 5) (by omega) hT hA hN hk hj1 (by decide)) rfl hT (fun v1 w1 hq => ?_)
            obtain ⟨rfl, rfl⟩ := hq
            refine ⟨(PW v (if tk_C A N (j + 1) = 5 then (j + 1) + 1 else (j + 1)) l (-1)), R, rfl, rfl, ?_⟩
            rw [if_neg h5, if_neg h5]
            refine im_bT rfl rfl ⟨(by decide), trivial⟩ rfl ?_
            refine im_r rfl rfl trivial rfl ?_
            have hres : ∃ c, res = .inr ((j + 1), l, c) := by cases hdn; exact ⟨_, rfl⟩
            obtain ⟨c5, hres⟩ := hres
            rw [hres]
            exact ⟨rfl, hl, hj1, rfl⟩
        · rw [if_neg h4] at hdn
          have hres : res = .inl j := by cases hdn; rfl
          refine im_g 2 (y := (34, _, _, _)) rfl trivial ?_
          refine im_cM rfl rfl (r_mustN (v := v) (R := R) (A := A) (N := N) (i := j) (l := l) (c := 4) (by omega) hT hA hN hk hj (by decide) h4) rfl hT (fun v1 w1 hq => ?_)
          obtain ⟨rfl, rfl⟩ := hq
          refine ⟨(PW v j l (tk_Q A N j)), R, rfl, rfl, ?_⟩
          refine im_g 2 (y := (39, _, _, _)) rfl trivial ?_
          refine im_cM rfl rfl (r_takeD (v := v) (R := R) (t := j) (l := l) (b := (tk_Q A N j)) (by omega) hT (rq_Q hN j)) rfl hT (fun v1 w1 hq => ?_)
          obtain ⟨rfl, rfl⟩ := hq
          refine ⟨(PW v j l (tk_Q A N j)), R, rfl, rfl, ?_⟩
          refine im_bT rfl rfl ⟨(by decide), trivial⟩ rfl ?_
          refine im_r rfl rfl trivial rfl ?_
          rw [hres]
          exact ⟨rfl, hj, j, l, rfl⟩
      · have c21 : tk_C A N j = 3 := by
          by_cases hh : tk_C A N j = 3
          · exact hh
          · rw [if_neg hh] at br3; exact absurd rfl br3
        clear br3
        rw [if_pos c21]
        unfold d_law at hdn
        rw [if_pos (by omega)] at hdn
        have hlt := rq_lt (A := A) hN (i := j) (by omega)
        rcases d_bq_s hdn with ⟨f1, q1, hres⟩ | ⟨j1, l1, m1, q1, q3⟩
        · refine im_g 2 (y := (26, _, _, _)) rfl trivial ?_
          refine im_cM rfl rfl ((r_all (ro := ro) (T := T) hT n).2.2.1 d false v R A N 0 (j + 1) (l) _ hP (by decide) (by omega) (by omega) hl q1) rfl hT (fun v1 w1 hq => ?_)
          obtain ⟨rfl, hf1, t1, lz1, rfl⟩ := hq
          refine ⟨(PW v t1 lz1 (tk_Q A N f1)), R, rfl, rfl, ?_⟩
          refine im_g 3 (y := (39, _, _, _)) rfl trivial ?_
          refine im_cM rfl rfl (r_takeD (v := v) (R := R) (t := t1) (l := lz1) (b := (tk_Q A N f1)) (by omega) hT (rq_Q hN f1)) rfl hT (fun v1 w1 hq => ?_)
          obtain ⟨rfl, rfl⟩ := hq
          refine ⟨(PW v t1 lz1 (tk_Q A N f1)), R, rfl, rfl, ?_⟩
          refine im_bT rfl rfl ⟨(by decide), trivial⟩ rfl ?_
          refine im_r rfl rfl trivial rfl ?_
          rw [hres]
          exact ⟨rfl, hf1, t1, lz1, rfl⟩
        · have hj1 := rq_nt hN (by decide) (show 0 ≤ j + 1 ∧ j + 1 ≤ tk_nt A N by omega) q1
          refine im_g 2 (y := (26, _, _, _)) rfl trivial ?_
          refine im_cM rfl rfl ((r_all (ro := ro) (T := T) hT n).2.2.1 d false v R A N 0 (j + 1) (l) _ hP (by decide) (by omega) (by omega) hl q1) rfl hT (fun v1 w1 hq => ?_)
          obtain ⟨rfl, hlb1, rfl⟩ := hq
          refine ⟨(PW v j1 l1 (-1)), R, rfl, rfl, ?_⟩
          refine im_g 1 (y := (37, _, _, _)) rfl trivial ?_
          unfold d_if at q3
          by_cases h5 : tk_C A N j1 = 5
          · rw [if_pos h5] at q3
            have hlt5 := rq_lt (A := A) hN (i := j1) (by omega)
            rcases d_bq_s q3 with ⟨f5, q5, hres⟩ | ⟨j5, l5, m5, q5, q6⟩
            · refine im_g 2 (y := (39, _, _, _)) rfl trivial ?_
              refine im_cM rfl rfl (r_takeA (v := v) (R := R) (A := A) (N := N) (i := j1) (l := l1) (c := 5) (by omega) hT hA hN hk hj1 (by decide)) rfl hT (fun v1 w1 hq => ?_)
              obtain ⟨rfl, rfl⟩ := hq
              refine ⟨(PW v (if tk_C A N j1 = 5 then j1 + 1 else j1) l1 (-1)), R, rfl, rfl, ?_⟩
              rw [if_pos h5, if_pos h5]
              refine im_bF rfl rfl ⟨(by decide), trivial⟩ (by decide) ?_
              refine im_g 2 (y := (47, _, _, _)) rfl trivial ?_
              refine im_cM rfl rfl ((r_all (ro := ro) (T := T) hT n).2.2.2.2.2.1 d false v R A N 0 (j1 + 1) (l1) _ hP (by decide) (by omega) (by omega) hlb1 q5) rfl hT (fun v1 w1 hq => ?_)
              obtain ⟨rfl, hf5, t5, lz5, rfl⟩ := hq
              refine ⟨(PW v t5 lz5 (tk_Q A N f5)), R, rfl, rfl, ?_⟩
              refine im_r rfl rfl trivial rfl ?_
              rw [hres]
              exact ⟨rfl, hf5, t5, lz5, rfl⟩
            · refine im_g 2 (y := (39, _, _, _)) rfl trivial ?_
              refine im_cM rfl rfl (r_takeA (v := v) (R := R) (A := A) (N := N) (i := j1) (l := l1) (c := 5) (by omega) hT hA hN hk hj1 (by decide)) rfl hT (fun v1 w1 hq => ?_)
              obtain ⟨rfl, rfl⟩ := hq
              refine ⟨(PW v (if tk_C A N j1 = 5 then j1 + 1 else j1) l1 (-1)), R, rfl, rfl, ?_⟩
              rw [if_pos h5, if_pos h5]
              refine im_bF rfl rfl ⟨(by decide), trivial⟩ (by decide) ?_
              refine im_g 2 (y := (47, _, _, _)) rfl trivial ?_
              refine im_cM rfl rfl ((r_all (ro := ro) (T := T) hT n).2.2.2.2.2.1 d false v R A N 0 (j1 + 1) (l1) _ hP (by decide) (by omega) (by omega) hlb1 q5) rfl hT (fun v1 w1 hq => ?_)
              obtain ⟨rfl, hlb5, rfl⟩ := hq
              refine ⟨(PW v j5 l5 (-1)), R, rfl, rfl, ?_⟩
              refine im_r rfl rfl trivial rfl ?_
              have hres : ∃ c, res = .inr (j5, l5, c) := by cases q6; exact ⟨_, rfl⟩
              obtain ⟨c5, hres⟩ := hres
              rw [hres]
              exact ⟨rfl, hlb5, rq_nt hN (by decide) (show 0 ≤ j1 + 1 ∧ j1 + 1 ≤ tk_nt A N by omega) q5, rfl⟩
          · rw [if_neg h5] at q3
            refine im_g 2 (y := (39, _, _, _)) rfl trivial ?_
            refine im_cM rfl rfl (r_takeA (v := v) (R := R) (A := A) (N := N) (i := j1) (l := l1) (c := 5) (by omega) hT hA hN hk hj1 (by decide)) rfl hT (fun v1 w1 hq => ?_)
            obtain ⟨rfl, rfl⟩ := hq
            refine ⟨(PW v (if tk_C A N j1 = 5 then j1 + 1 else j1) l1 (-1)), R, rfl, rfl, ?_⟩
            rw [if_neg h5, if_neg h5]
            refine im_bT rfl rfl ⟨(by decide), trivial⟩ rfl ?_
            refine im_r rfl rfl trivial rfl ?_
            have hres : ∃ c, res = .inr (j1, l1, c) := by cases q3; exact ⟨_, rfl⟩
            obtain ⟨c5, hres⟩ := hres
            rw [hres]
            exact ⟨rfl, hlb1, hj1, rfl⟩
set_option maxHeartbeats 8000000 in
theorem r_otail {d : Nat} (hd : 75 ≤ d) (hT : T.length < 1000) {A : Int → Int} {N : Int} {v : Nat → Int} {R : Nat → Int → Int} {j l : Int} (hP : RPR true A N v R) (hj : 0 ≤ j ∧ j ≤ tk_nt A N) (hl : 0 ≤ l ∧ l ≤ 50) {n : Nat} {K : Int} {m1 m2 : dM} {res : dQ} (hdn : d_times (tk_C A N) (tk_X A N) n j l K m1 m2 = some res) : im_wp ro (ab_Ev ro ab_codes d) 9 none ab_k_X9_readOrder 24 T (fun r w => r = none ∧ RPq A N v R res w) (79, [some (mr 0)], [], MW (PW v j l (-1)) R) := by
  obtain ⟨hA, hN, hk, hv8, hv9, hv10⟩ := id hP
  have htn := (tk_nt_b (A := A) hN).1
  have hcb : 0 ≤ tk_C A N j ∧ tk_C A N j ≤ 355 := tk_code_b hA _ _
  unfold d_times at hdn
  by_cases h27 : tk_C A N j = 27
  · rw [if_pos h27] at hdn
    have hlt := rq_lt (A := A) hN (i := j) (by omega)
    have hj1 : 0 ≤ j + 1 ∧ j + 1 ≤ tk_nt A N := by omega
    by_cases hX : tk_C A N (j + 1) = 50 ∧ 1 ≤ tk_X A N (j + 1) ∧ tk_X A N (j + 1) ≤ 20
    · rw [if_pos hX] at hdn
      have hlt2 := rq_lt (A := A) hN (i := j + 1) (by omega)
      have hj2 : 0 ≤ j + 2 ∧ j + 2 ≤ tk_nt A N := by omega
      refine im_g 2 (y := (82, _, _, _)) rfl trivial ?_
      refine im_cM rfl rfl (r_takeA (v := v) (R := R) (A := A) (N := N) (i := j) (l := l) (c := 27) (by omega) hT hA hN hk hj (by decide)) rfl hT (fun v1 w1 hq => ?_)
      obtain ⟨rfl, rfl⟩ := hq
      refine ⟨(PW v (if tk_C A N j = 27 then j + 1 else j) l (-1)), R, rfl, rfl, ?_⟩
      rw [if_pos h27, if_pos h27]
      refine im_bF rfl rfl ⟨(by decide), trivial⟩ (by decide) ?_
      refine im_g 3 (y := (92, _, _, _)) rfl trivial ?_
      refine im_cM rfl rfl (r_numY (v := v) (R := R) (A := A) (N := N) (i := j + 1) (l := l) (lo := 1) (hi2 := 20) (by omega) hT hA hN hk hj1 (by decide) (by decide) hX) rfl hT (fun v1 w1 hq => ?_)
      obtain ⟨rfl, rfl⟩ := hq
      refine ⟨(PW v (j + 1 + 1) l (-1)), R, rfl, rfl, ?_⟩
      rw [show j + 1 + 1 = j + 2 by omega]
      unfold d_if at hdn
      by_cases h5 : tk_C A N (j + 2) = 5
      · rw [if_pos h5] at hdn
        have hlt5 := rq_lt (A := A) hN (i := (j + 2)) (by omega)
        rcases d_bq_s hdn with ⟨f5, q5, hres⟩ | ⟨j5, l5, m5, q5, q6⟩
        · refine im_g 2 (y := (97, _, _, _)) rfl trivial ?_
          refine im_cM rfl rfl (r_takeA (v := v) (R := R) (A := A) (N := N) (i := (j + 2)) (l := l) (c := 5) (by omega) hT hA hN hk hj2 (by decide)) rfl hT (fun v1 w1 hq => ?_)
          obtain ⟨rfl, rfl⟩ := hq
          refine ⟨(PW v (if tk_C A N (j + 2) = 5 then (j + 2) + 1 else (j + 2)) l (-1)), R, rfl, rfl, ?_⟩
          rw [if_pos h5, if_pos h5]
          refine im_bF rfl rfl ⟨(by decide), trivial⟩ (by decide) ?_
          refine im_g 2 (y := (105, _, _, _)) rfl trivial ?_
          refine im_cM rfl rfl ((r_all (ro := ro) (T := T) hT n).2.2.2.2.2.1 d true v R A N 0 ((j + 2) + 1) (l) _ hP (by decide) (by omega) (by omega) hl q5) rfl hT (fun v1 w1 hq => ?_)
          obtain ⟨rfl, hf5, t5, lz5, rfl⟩ := hq
          refine ⟨(PW v t5 lz5 (tk_Q A N f5)), R, rfl, rfl, ?_⟩
          refine im_r rfl rfl trivial rfl ?_
          rw [hres]
          exact ⟨rfl, hf5, t5, lz5, rfl⟩
        · refine im_g 2 (y := (97, _, _, _)) rfl trivial ?_
          refine im_cM rfl rfl (r_takeA (v := v) (R := R) (A := A) (N := N) (i := (j + 2)) (l := l) (c := 5) (by omega) hT hA hN hk hj2 (by decide)) rfl hT (fun v1 w1 hq => ?_)
          obtain ⟨rfl, rfl⟩ := hq
          refine ⟨(PW v (if tk_C A N (j + 2) = 5 then (j + 2) + 1 else (j + 2)) l (-1)), R, rfl, rfl, ?_⟩
          rw [if_pos h5, if_pos h5]
          refine im_bF rfl rfl ⟨(by decide), trivial⟩ (by decide) ?_
          refine im_g 2 (y := (105, _, _, _)) rfl trivial ?_
          refine im_cM rfl rfl ((r_all (ro := ro) (T := T) hT n).2.2.2.2.2.1 d true v R A N 0 ((j + 2) + 1) (l) _ hP (by decide) (by omega) (by omega) hl q5) rfl hT (fun v1 w1 hq => ?_)
          obtain ⟨rfl, hlb5, rfl⟩ := hq
          refine ⟨(PW v j5 l5 (-1)), R, rfl, rfl, ?_⟩
          refine im_r rfl rfl trivial rfl ?_
          have hres : ∃ c, res = .inr (j5, l5, c) := by cases q6; exact ⟨_, rfl⟩
          obtain ⟨c5, hres⟩ := hres
          rw [hres]
          exact ⟨rfl, hlb5, rq_nt hN (by decide) (show 0 ≤ (j + 2) + 1 ∧ (j + 2) + 1 ≤ tk_nt A N by omega) q5, rfl⟩
      · rw [if_neg h5] at hdn
        refine im_g 2 (y := (97, _, _, _)) rfl trivial ?_
        refine im_cM rfl rfl (r_takeA (v := v) (R := R) (A := A) (N := N) (i := (j + 2)) (l := l) (c := 5) (by omega) hT hA hN hk hj2 (by decide)) rfl hT (fun v1 w1 hq => ?_)
        obtain ⟨rfl, rfl⟩ := hq
        refine ⟨(PW v (if tk_C A N (j + 2) = 5 then (j + 2) + 1 else (j + 2)) l (-1)), R, rfl, rfl, ?_⟩
        rw [if_neg h5, if_neg h5]
        refine im_bT rfl rfl ⟨(by decide), trivial⟩ rfl ?_
        refine im_r rfl rfl trivial rfl ?_
        have hres : ∃ c, res = .inr ((j + 2), l, c) := by cases hdn; exact ⟨_, rfl⟩
        obtain ⟨c5, hres⟩ := hres
        rw [hres]
        exact ⟨rfl, hl, hj2, rfl⟩
    · rw [if_neg hX] at hdn
      have hres : res = .inl (j + 1) := by cases hdn; rfl
      refine im_g 2 (y := (82, _, _, _)) rfl trivial ?_
      refine im_cM rfl rfl (r_takeA (v := v) (R := R) (A := A) (N := N) (i := j) (l := l) (c := 27) (by omega) hT hA hN hk hj (by decide)) rfl hT (fun v1 w1 hq => ?_)
      obtain ⟨rfl, rfl⟩ := hq
      refine ⟨(PW v (if tk_C A N j = 27 then j + 1 else j) l (-1)), R, rfl, rfl, ?_⟩
      rw [if_pos h27, if_pos h27]
      refine im_bF rfl rfl ⟨(by decide), trivial⟩ (by decide) ?_
      refine im_g 3 (y := (92, _, _, _)) rfl trivial ?_
      refine im_cM rfl rfl (r_numN (v := v) (R := R) (A := A) (N := N) (i := j + 1) (l := l) (lo := 1) (hi2 := 20) (by omega) hT hA hN hk hj1 (by decide) (by decide) hX) rfl hT (fun v1 w1 hq => ?_)
      obtain ⟨rfl, rfl⟩ := hq
      refine ⟨(PW v (j + 1) l (tk_Q A N (j + 1))), R, rfl, rfl, ?_⟩
      refine im_g 2 (y := (97, _, _, _)) rfl trivial ?_
      refine im_cM rfl rfl (r_takeD (v := v) (R := R) (t := (j + 1)) (l := l) (b := (tk_Q A N (j + 1))) (by omega) hT (rq_Q hN (j + 1))) rfl hT (fun v1 w1 hq => ?_)
      obtain ⟨rfl, rfl⟩ := hq
      refine ⟨(PW v (j + 1) l (tk_Q A N (j + 1))), R, rfl, rfl, ?_⟩
      refine im_bT rfl rfl ⟨(by decide), trivial⟩ rfl ?_
      refine im_r rfl rfl trivial rfl ?_
      rw [hres]
      exact ⟨rfl, hj1, _, _, rfl⟩
  · rw [if_neg h27] at hdn
    refine im_g 2 (y := (82, _, _, _)) rfl trivial ?_
    refine im_cM rfl rfl (r_takeA (v := v) (R := R) (A := A) (N := N) (i := j) (l := l) (c := 27) (by omega) hT hA hN hk hj (by decide)) rfl hT (fun v1 w1 hq => ?_)
    obtain ⟨rfl, rfl⟩ := hq
    refine ⟨(PW v (if tk_C A N j = 27 then j + 1 else j) l (-1)), R, rfl, rfl, ?_⟩
    rw [if_neg h27, if_neg h27]
    refine im_bT rfl rfl ⟨(by decide), trivial⟩ rfl ?_
    unfold d_if at hdn
    by_cases h5 : tk_C A N j = 5
    · rw [if_pos h5] at hdn
      have hlt5 := rq_lt (A := A) hN (i := j) (by omega)
      rcases d_bq_s hdn with ⟨f5, q5, hres⟩ | ⟨j5, l5, m5, q5, q6⟩
      · refine im_g 2 (y := (97, _, _, _)) rfl trivial ?_
        refine im_cM rfl rfl (r_takeA (v := v) (R := R) (A := A) (N := N) (i := j) (l := l) (c := 5) (by omega) hT hA hN hk hj (by decide)) rfl hT (fun v1 w1 hq => ?_)
        obtain ⟨rfl, rfl⟩ := hq
        refine ⟨(PW v (if tk_C A N j = 5 then j + 1 else j) l (-1)), R, rfl, rfl, ?_⟩
        rw [if_pos h5, if_pos h5]
        refine im_bF rfl rfl ⟨(by decide), trivial⟩ (by decide) ?_
        refine im_g 2 (y := (105, _, _, _)) rfl trivial ?_
        refine im_cM rfl rfl ((r_all (ro := ro) (T := T) hT n).2.2.2.2.2.1 d true v R A N 0 (j + 1) (l) _ hP (by decide) (by omega) (by omega) hl q5) rfl hT (fun v1 w1 hq => ?_)
        obtain ⟨rfl, hf5, t5, lz5, rfl⟩ := hq
        refine ⟨(PW v t5 lz5 (tk_Q A N f5)), R, rfl, rfl, ?_⟩
        refine im_r rfl rfl trivial rfl ?_
        rw [hres]
        exact ⟨rfl, hf5, t5, lz5, rfl⟩
      · refine im_g 2 (y := (97, _, _, _)) rfl trivial ?_
        refine im_cM rfl rfl (r_takeA (v := v) (R := R) (A := A) (N := N) (i := j) (l := l) (c := 5) (by omega) hT hA hN hk hj (by decide)) rfl hT (fun v1 w1 hq => ?_)
        obtain ⟨rfl, rfl⟩ := hq
        refine ⟨(PW v (if tk_C A N j = 5 then j + 1 else j) l (-1)), R, rfl, rfl, ?_⟩
        rw [if_pos h5, if_pos h5]
        refine im_bF rfl rfl ⟨(by decide), trivial⟩ (by decide) ?_
        refine im_g 2 (y := (105, _, _, _)) rfl trivial ?_
        refine im_cM rfl rfl ((r_all (ro := ro) (T := T) hT n).2.2.2.2.2.1 d true v R A N 0 (j + 1) (l) _ hP (by decide) (by omega) (by omega) hl q5) rfl hT (fun v1 w1 hq => ?_)
        obtain ⟨rfl, hlb5, rfl⟩ := hq
        refine ⟨(PW v j5 l5 (-1)), R, rfl, rfl, ?_⟩
        refine im_r rfl rfl trivial rfl ?_
        have hres : ∃ c, res = .inr (j5, l5, c) := by cases q6; exact ⟨_, rfl⟩
        obtain ⟨c5, hres⟩ := hres
        rw [hres]
        exact ⟨rfl, hlb5, rq_nt hN (by decide) (show 0 ≤ j + 1 ∧ j + 1 ≤ tk_nt A N by omega) q5, rfl⟩
    · rw [if_neg h5] at hdn
      refine im_g 2 (y := (97, _, _, _)) rfl trivial ?_
      refine im_cM rfl rfl (r_takeA (v := v) (R := R) (A := A) (N := N) (i := j) (l := l) (c := 5) (by omega) hT hA hN hk hj (by decide)) rfl hT (fun v1 w1 hq => ?_)
      obtain ⟨rfl, rfl⟩ := hq
      refine ⟨(PW v (if tk_C A N j = 5 then j + 1 else j) l (-1)), R, rfl, rfl, ?_⟩
      rw [if_neg h5, if_neg h5]
      refine im_bT rfl rfl ⟨(by decide), trivial⟩ rfl ?_
      refine im_r rfl rfl trivial rfl ?_
      have hres : ∃ c, res = .inr (j, l, c) := by cases hdn; exact ⟨_, rfl⟩
      obtain ⟨c5, hres⟩ := hres
      rw [hres]
      exact ⟨rfl, hl, hj, rfl⟩
set_option maxHeartbeats 8000000 in
theorem r_otailD {d : Nat} (hd : 75 ≤ d) (hT : T.length < 1000) {A : Int → Int} {N : Int} {v : Nat → Int} {R : Nat → Int → Int} {t l f : Int} (hN : 0 ≤ N ∧ N ≤ 400) {res : dQ} (hres : res = .inl f) (hf : 0 ≤ f ∧ f ≤ tk_nt A N) : im_wp ro (ab_Ev ro ab_codes d) 9 none ab_k_X9_readOrder 24 T (fun r w => r = none ∧ RPq A N v R res w) (79, [some (mr 0)], [], MW (PW v t l (tk_Q A N f)) R) := by
  refine im_g 2 (y := (82, _, _, _)) rfl trivial ?_
  refine im_cM rfl rfl (r_takeD (v := v) (R := R) (t := t) (l := l) (b := (tk_Q A N f)) (by omega) hT (rq_Q hN f)) rfl hT (fun v1 w1 hq => ?_)
  obtain ⟨rfl, rfl⟩ := hq
  refine ⟨(PW v t l (tk_Q A N f)), R, rfl, rfl, ?_⟩
  refine im_bT rfl rfl ⟨(by decide), trivial⟩ rfl ?_
  refine im_g 2 (y := (97, _, _, _)) rfl trivial ?_
  refine im_cM rfl rfl (r_takeD (v := v) (R := R) (t := t) (l := l) (b := (tk_Q A N f)) (by omega) hT (rq_Q hN f)) rfl hT (fun v1 w1 hq => ?_)
  obtain ⟨rfl, rfl⟩ := hq
  refine ⟨(PW v t l (tk_Q A N f)), R, rfl, rfl, ?_⟩
  refine im_bT rfl rfl ⟨(by decide), trivial⟩ rfl ?_
  refine im_r rfl rfl trivial rfl ?_
  rw [hres]
  exact ⟨rfl, hf, t, l, rfl⟩
set_option maxHeartbeats 8000000 in
theorem r_order {d : Nat} (hd : 76 ≤ d) (hT : T.length < 1000) {A : Int → Int} {N : Int} {v : Nat → Int} {R : Nat → Int → Int} {j l : Int} (hP : RPR true A N v R) (hj : 0 ≤ j ∧ j ≤ tk_nt A N) (hl : 0 ≤ l ∧ l ≤ 50) {n : Nat} {res : dQ} (hdn : d_order (tk_C A N) (tk_X A N) n j l = some res) : im_ct ro T d 158 [mr 0] (MW (PW v j l (-1)) R) (fun r w => r = none ∧ RPq A N v R res w) := by
  obtain ⟨d, rfl⟩ : ∃ e, d = e + 1 := ⟨d - 1, by omega⟩
  obtain ⟨hA, hN, hk, hv8, hv9, hv10⟩ := id hP
  have htn := (tk_nt_b (A := A) hN).1
  have hcb : 0 ≤ tk_C A N j ∧ tk_C A N j ≤ 355 := tk_code_b hA _ _
  refine im_ct_of (own := 9) (ret := none) (code := ab_k_X9_readOrder) (nL := 1) (L0 := [some (mr 0)]) (n := 24) rfl rfl rfl rfl rfl rfl rfl rfl rfl ?_
  refine im_g 2 (y := (3, _, _, _)) rfl trivial ?_
  refine im_cM rfl rfl (r_takeA (v := v) (R := R) (A := A) (N := N) (i := j) (l := l) (c := 21) (by omega) hT hA hN hk hj (by decide)) rfl hT (fun v1 w1 hq => ?_)
  obtain ⟨rfl, rfl⟩ := hq
  refine ⟨(PW v (if tk_C A N j = 21 then j + 1 else j) l (-1)), R, rfl, rfl, ?_⟩
  refine im_b rfl rfl ⟨(by split <;> decide), trivial⟩ (fun br1 => ?_) (fun br1 => ?_)
  · have c6 : ¬ (tk_C A N j = 21) := by
      intro hh
      rw [if_pos hh] at br1
      exact absurd br1 (by decide)
    clear br1
    rw [if_neg c6]
    refine im_g 2 (y := (20, _, _, _)) rfl trivial ?_
    refine im_cM rfl rfl (r_takeA (v := v) (R := R) (A := A) (N := N) (i := j) (l := l) (c := 23) (by omega) hT hA hN hk hj (by decide)) rfl hT (fun v1 w1 hq => ?_)
    obtain ⟨rfl, rfl⟩ := hq
    refine ⟨(PW v (if tk_C A N j = 23 then j + 1 else j) l (-1)), R, rfl, rfl, ?_⟩
    refine im_b rfl rfl ⟨(by split <;> decide), trivial⟩ (fun br2 => ?_) (fun br2 => ?_)
    · have c23 : ¬ (tk_C A N j = 23) := by
        intro hh
        rw [if_pos hh] at br2
        exact absurd br2 (by decide)
      clear br2
      rw [if_neg c23]
      refine im_g 2 (y := (48, _, _, _)) rfl trivial ?_
      refine im_cM rfl rfl (r_takeA (v := v) (R := R) (A := A) (N := N) (i := j) (l := l) (c := 25) (by omega) hT hA hN hk hj (by decide)) rfl hT (fun v1 w1 hq => ?_)
      obtain ⟨rfl, rfl⟩ := hq
      refine ⟨(PW v (if tk_C A N j = 25 then j + 1 else j) l (-1)), R, rfl, rfl, ?_⟩
      refine im_b rfl rfl ⟨(by split <;> decide), trivial⟩ (fun br3 => ?_) (fun br3 => ?_)
      · have c51 : ¬ (tk_C A N j = 25) := by
          intro hh
          rw [if_pos hh] at br3
          exact absurd br3 (by decide)
        clear br3
        rw [if_neg c51]
        unfold d_order at hdn
        rw [if_neg (by omega), if_neg (by omega), if_neg (by omega)] at hdn
        by_cases h22 : tk_C A N j = 22
        · rw [if_pos h22] at hdn
          have hlt := rq_lt (A := A) hN (i := j) (by omega)
          refine im_g 2 (y := (76, _, _, _)) rfl trivial ?_
          refine im_cM rfl rfl (r_mustY (v := v) (R := R) (A := A) (N := N) (i := j) (l := l) (c := 22) (by omega) hT hA hN hk hj (by decide) h22) rfl hT (fun v1 w1 hq => ?_)
          obtain ⟨rfl, rfl⟩ := hq
          refine ⟨(PW v (j + 1) l (-1)), R, rfl, rfl, ?_⟩
          exact r_otail (by omega) hT hP (by omega) hl hdn
        · rw [if_neg h22] at hdn
          have hres : res = .inl j := by cases hdn; rfl
          refine im_g 2 (y := (76, _, _, _)) rfl trivial ?_
          refine im_cM rfl rfl (r_mustN (v := v) (R := R) (A := A) (N := N) (i := j) (l := l) (c := 22) (by omega) hT hA hN hk hj (by decide) h22) rfl hT (fun v1 w1 hq => ?_)
          obtain ⟨rfl, rfl⟩ := hq
          refine ⟨(PW v j l (tk_Q A N j)), R, rfl, rfl, ?_⟩
          exact r_otailD (by omega) hT hN hres hj
      · have c51 : tk_C A N j = 25 := by
          by_cases hh : tk_C A N j = 25
          · exact hh
          · rw [if_neg hh] at br3; exact absurd rfl br3
        clear br3
        rw [if_pos c51]
        unfold d_order at hdn
        rw [if_neg (by omega), if_neg (by omega), if_pos (by omega)] at hdn
        have hlt := rq_lt (A := A) hN (i := j) (by omega)
        unfold d_two at hdn
        rcases d_bq_s hdn with ⟨f1, q1, hres⟩ | ⟨j1, l1, m1, q1, q3⟩
        · refine im_g 2 (y := (56, _, _, _)) rfl trivial ?_
          refine im_cM rfl rfl ((r_all (ro := ro) (T := T) hT n).2.2.1 d true v R A N 0 (j + 1) (l) _ hP (by decide) (by omega) (by omega) hl q1) rfl hT (fun v1 w1 hq => ?_)
          obtain ⟨rfl, hf1, t1, lz1, rfl⟩ := hq
          refine ⟨(PW v t1 lz1 (tk_Q A N f1)), R, rfl, rfl, ?_⟩
          refine im_g 2 (y := (62, _, _, _)) rfl trivial ?_
          refine im_cM rfl rfl (r_mustD (v := v) (R := R) (t := t1) (l := lz1) (b := (tk_Q A N f1)) (by omega) hT (rq_Q hN f1) (c := 26)) rfl hT (fun v1 w1 hq => ?_)
          obtain ⟨rfl, rfl⟩ := hq
          refine ⟨(PW v t1 lz1 (tk_Q A N f1)), R, rfl, rfl, ?_⟩
          refine im_g 2 (y := (67, _, _, _)) rfl trivial ?_
          refine im_cM rfl rfl (r_sumD (v := v) (R := R) (t := t1) (l := lz1) (b := (tk_Q A N f1)) (by omega) hT (rq_Q hN f1) (o := 0)) rfl hT (fun v1 w1 hq => ?_)
          obtain ⟨rfl, rfl⟩ := hq
          refine ⟨(PW v t1 lz1 (tk_Q A N f1)), R, rfl, rfl, ?_⟩
          refine im_g 1 (y := (79, _, _, _)) rfl trivial ?_
          exact r_otailD (by omega) hT hN hres hf1
        · have hj1 := rq_nt hN (by decide) (show 0 ≤ j + 1 ∧ j + 1 ≤ tk_nt A N by omega) q1
          refine im_g 2 (y := (56, _, _, _)) rfl trivial ?_
          refine im_cM rfl rfl ((r_all (ro := ro) (T := T) hT n).2.2.1 d true v R A N 0 (j + 1) (l) _ hP (by decide) (by omega) (by omega) hl q1) rfl hT (fun v1 w1 hq => ?_)
          obtain ⟨rfl, hlb1, rfl⟩ := hq
          refine ⟨(PW v j1 l1 (-1)), R, rfl, rfl, ?_⟩
          by_cases hw : tk_C A N j1 = 26
          · rw [if_pos hw] at q3
            have hlt2 := rq_lt (A := A) hN (i := j1) (by rw [hw]; decide)
            rcases d_bq_s q3 with ⟨f2, q4, hres⟩ | ⟨j2, l2, m2, q4, q5⟩
            · refine im_g 2 (y := (62, _, _, _)) rfl trivial ?_
              refine im_cM rfl rfl (r_mustY (v := v) (R := R) (A := A) (N := N) (i := j1) (l := l1) (c := 26) (by omega) hT hA hN hk hj1 (by decide) hw) rfl hT (fun v1 w1 hq => ?_)
              obtain ⟨rfl, rfl⟩ := hq
              refine ⟨(PW v (j1 + 1) l1 (-1)), R, rfl, rfl, ?_⟩
              refine im_g 2 (y := (67, _, _, _)) rfl trivial ?_
              refine im_cM rfl rfl ((r_all (ro := ro) (T := T) hT n).2.2.1 d true v R A N 0 (j1 + 1) (l1) _ hP (by decide) (by omega) (by omega) hlb1 q4) rfl hT (fun v1 w1 hq => ?_)
              obtain ⟨rfl, hf2, t2, lz2, rfl⟩ := hq
              refine ⟨(PW v t2 lz2 (tk_Q A N f2)), R, rfl, rfl, ?_⟩
              refine im_g 1 (y := (79, _, _, _)) rfl trivial ?_
              exact r_otailD (by omega) hT hN hres hf2
            · have hj2 := rq_nt hN (by decide) (show 0 ≤ j1 + 1 ∧ j1 + 1 ≤ tk_nt A N by omega) q4
              refine im_g 2 (y := (62, _, _, _)) rfl trivial ?_
              refine im_cM rfl rfl (r_mustY (v := v) (R := R) (A := A) (N := N) (i := j1) (l := l1) (c := 26) (by omega) hT hA hN hk hj1 (by decide) hw) rfl hT (fun v1 w1 hq => ?_)
              obtain ⟨rfl, rfl⟩ := hq
              refine ⟨(PW v (j1 + 1) l1 (-1)), R, rfl, rfl, ?_⟩
              refine im_g 2 (y := (67, _, _, _)) rfl trivial ?_
              refine im_cM rfl rfl ((r_all (ro := ro) (T := T) hT n).2.2.1 d true v R A N 0 (j1 + 1) (l1) _ hP (by decide) (by omega) (by omega) hlb1 q4) rfl hT (fun v1 w1 hq => ?_)
              obtain ⟨rfl, hlb2, rfl⟩ := hq
              refine ⟨(PW v j2 l2 (-1)), R, rfl, rfl, ?_⟩
              refine im_g 1 (y := (79, _, _, _)) rfl trivial ?_
              exact r_otail (by omega) hT hP hj2 hlb2 q5
          · rw [if_neg hw] at q3
            have hres : res = .inl j1 := by cases q3; rfl
            refine im_g 2 (y := (62, _, _, _)) rfl trivial ?_
            refine im_cM rfl rfl (r_mustN (v := v) (R := R) (A := A) (N := N) (i := j1) (l := l1) (c := 26) (by omega) hT hA hN hk hj1 (by decide) hw) rfl hT (fun v1 w1 hq => ?_)
            obtain ⟨rfl, rfl⟩ := hq
            refine ⟨(PW v j1 l1 (tk_Q A N j1)), R, rfl, rfl, ?_⟩
            refine im_g 2 (y := (67, _, _, _)) rfl trivial ?_
            refine im_cM rfl rfl (r_sumD (v := v) (R := R) (t := j1) (l := l1) (b := tk_Q A N j1) (by omega) hT (rq_Q hN j1) (o := 0)) rfl hT (fun v1 w1 hq => ?_)
            obtain ⟨rfl, rfl⟩ := hq
            refine ⟨(PW v j1 l1 (tk_Q A N j1)), R, rfl, rfl, ?_⟩
            refine im_g 1 (y := (79, _, _, _)) rfl trivial ?_
            exact r_otailD (by omega) hT hN hres hj1
    · have c23 : tk_C A N j = 23 := by
        by_cases hh : tk_C A N j = 23
        · exact hh
        · rw [if_neg hh] at br2; exact absurd rfl br2
      clear br2
      rw [if_pos c23]
      unfold d_order at hdn
      rw [if_neg (by omega), if_pos (by omega)] at hdn
      have hlt := rq_lt (A := A) hN (i := j) (by omega)
      unfold d_two at hdn
      rcases d_bq_s hdn with ⟨f1, q1, hres⟩ | ⟨j1, l1, m1, q1, q3⟩
      · refine im_g 2 (y := (28, _, _, _)) rfl trivial ?_
        refine im_cM rfl rfl ((r_all (ro := ro) (T := T) hT n).2.2.1 d true v R A N 0 (j + 1) (l) _ hP (by decide) (by omega) (by omega) hl q1) rfl hT (fun v1 w1 hq => ?_)
        obtain ⟨rfl, hf1, t1, lz1, rfl⟩ := hq
        refine ⟨(PW v t1 lz1 (tk_Q A N f1)), R, rfl, rfl, ?_⟩
        refine im_g 2 (y := (34, _, _, _)) rfl trivial ?_
        refine im_cM rfl rfl (r_mustD (v := v) (R := R) (t := t1) (l := lz1) (b := (tk_Q A N f1)) (by omega) hT (rq_Q hN f1) (c := 24)) rfl hT (fun v1 w1 hq => ?_)
        obtain ⟨rfl, rfl⟩ := hq
        refine ⟨(PW v t1 lz1 (tk_Q A N f1)), R, rfl, rfl, ?_⟩
        refine im_g 2 (y := (39, _, _, _)) rfl trivial ?_
        refine im_cM rfl rfl (r_sumD (v := v) (R := R) (t := t1) (l := lz1) (b := (tk_Q A N f1)) (by omega) hT (rq_Q hN f1) (o := 0)) rfl hT (fun v1 w1 hq => ?_)
        obtain ⟨rfl, rfl⟩ := hq
        refine ⟨(PW v t1 lz1 (tk_Q A N f1)), R, rfl, rfl, ?_⟩
        refine im_g 1 (y := (79, _, _, _)) rfl trivial ?_
        exact r_otailD (by omega) hT hN hres hf1
      · have hj1 := rq_nt hN (by decide) (show 0 ≤ j + 1 ∧ j + 1 ≤ tk_nt A N by omega) q1
        refine im_g 2 (y := (28, _, _, _)) rfl trivial ?_
        refine im_cM rfl rfl ((r_all (ro := ro) (T := T) hT n).2.2.1 d true v R A N 0 (j + 1) (l) _ hP (by decide) (by omega) (by omega) hl q1) rfl hT (fun v1 w1 hq => ?_)
        obtain ⟨rfl, hlb1, rfl⟩ := hq
        refine ⟨(PW v j1 l1 (-1)), R, rfl, rfl, ?_⟩
        by_cases hw : tk_C A N j1 = 24
        · rw [if_pos hw] at q3
          have hlt2 := rq_lt (A := A) hN (i := j1) (by rw [hw]; decide)
          rcases d_bq_s q3 with ⟨f2, q4, hres⟩ | ⟨j2, l2, m2, q4, q5⟩
          · refine im_g 2 (y := (34, _, _, _)) rfl trivial ?_
            refine im_cM rfl rfl (r_mustY (v := v) (R := R) (A := A) (N := N) (i := j1) (l := l1) (c := 24) (by omega) hT hA hN hk hj1 (by decide) hw) rfl hT (fun v1 w1 hq => ?_)
            obtain ⟨rfl, rfl⟩ := hq
            refine ⟨(PW v (j1 + 1) l1 (-1)), R, rfl, rfl, ?_⟩
            refine im_g 2 (y := (39, _, _, _)) rfl trivial ?_
            refine im_cM rfl rfl ((r_all (ro := ro) (T := T) hT n).2.2.1 d true v R A N 0 (j1 + 1) (l1) _ hP (by decide) (by omega) (by omega) hlb1 q4) rfl hT (fun v1 w1 hq => ?_)
            obtain ⟨rfl, hf2, t2, lz2, rfl⟩ := hq
            refine ⟨(PW v t2 lz2 (tk_Q A N f2)), R, rfl, rfl, ?_⟩
            refine im_g 1 (y := (79, _, _, _)) rfl trivial ?_
            exact r_otailD (by omega) hT hN hres hf2
          · have hj2 := rq_nt hN (by decide) (show 0 ≤ j1 + 1 ∧ j1 + 1 ≤ tk_nt A N by omega) q4
            refine im_g 2 (y := (34, _, _, _)) rfl trivial ?_
            refine im_cM rfl rfl (r_mustY (v := v) (R := R) (A := A) (N := N) (i := j1) (l := l1) (c := 24) (by omega) hT hA hN hk hj1 (by decide) hw) rfl hT (fun v1 w1 hq => ?_)
            obtain ⟨rfl, rfl⟩ := hq
            refine ⟨(PW v (j1 + 1) l1 (-1)), R, rfl, rfl, ?_⟩
            refine im_g 2 (y := (39, _, _, _)) rfl trivial ?_
            refine im_cM rfl rfl ((r_all (ro := ro) (T := T) hT n).2.2.1 d true v R A N 0 (j1 + 1) (l1) _ hP (by decide) (by omega) (by omega) hlb1 q4) rfl hT (fun v1 w1 hq => ?_)
            obtain ⟨rfl, hlb2, rfl⟩ := hq
            refine ⟨(PW v j2 l2 (-1)), R, rfl, rfl, ?_⟩
            refine im_g 1 (y := (79, _, _, _)) rfl trivial ?_
            exact r_otail (by omega) hT hP hj2 hlb2 q5
        · rw [if_neg hw] at q3
          have hres : res = .inl j1 := by cases q3; rfl
          refine im_g 2 (y := (34, _, _, _)) rfl trivial ?_
          refine im_cM rfl rfl (r_mustN (v := v) (R := R) (A := A) (N := N) (i := j1) (l := l1) (c := 24) (by omega) hT hA hN hk hj1 (by decide) hw) rfl hT (fun v1 w1 hq => ?_)
          obtain ⟨rfl, rfl⟩ := hq
          refine ⟨(PW v j1 l1 (tk_Q A N j1)), R, rfl, rfl, ?_⟩
          refine im_g 2 (y := (39, _, _, _)) rfl trivial ?_
          refine im_cM rfl rfl (r_sumD (v := v) (R := R) (t := j1) (l := l1) (b := tk_Q A N j1) (by omega) hT (rq_Q hN j1) (o := 0)) rfl hT (fun v1 w1 hq => ?_)
          obtain ⟨rfl, rfl⟩ := hq
          refine ⟨(PW v j1 l1 (tk_Q A N j1)), R, rfl, rfl, ?_⟩
          refine im_g 1 (y := (79, _, _, _)) rfl trivial ?_
          exact r_otailD (by omega) hT hN hres hj1
  · have c6 : tk_C A N j = 21 := by
      by_cases hh : tk_C A N j = 21
      · exact hh
      · rw [if_neg hh] at br1; exact absurd rfl br1
    clear br1
    rw [if_pos c6]
    unfold d_order at hdn
    rw [if_pos (by omega)] at hdn
    have hlt := rq_lt (A := A) hN (i := j) (by omega)
    rcases d_bq_s hdn with ⟨f1, q1, hres⟩ | ⟨j1, l1, m1, q1, q3⟩
    · refine im_g 2 (y := (11, _, _, _)) rfl trivial ?_
      refine im_cM rfl rfl ((r_all (ro := ro) (T := T) hT n).2.2.1 d true v R A N 0 (j + 1) (l) _ hP (by decide) (by omega) (by omega) hl q1) rfl hT (fun v1 w1 hq => ?_)
      obtain ⟨rfl, hf1, t1, lz1, rfl⟩ := hq
      refine ⟨(PW v t1 lz1 (tk_Q A N f1)), R, rfl, rfl, ?_⟩
      refine im_g 1 (y := (79, _, _, _)) rfl trivial ?_
      exact r_otailD (by omega) hT hN hres hf1
    · have hj1 := rq_nt hN (by decide) (show 0 ≤ j + 1 ∧ j + 1 ≤ tk_nt A N by omega) q1
      refine im_g 2 (y := (11, _, _, _)) rfl trivial ?_
      refine im_cM rfl rfl ((r_all (ro := ro) (T := T) hT n).2.2.1 d true v R A N 0 (j + 1) (l) _ hP (by decide) (by omega) (by omega) hl q1) rfl hT (fun v1 w1 hq => ?_)
      obtain ⟨rfl, hlb1, rfl⟩ := hq
      refine ⟨(PW v j1 l1 (-1)), R, rfl, rfl, ?_⟩
      refine im_g 1 (y := (79, _, _, _)) rfl trivial ?_
      exact r_otail (by omega) hT hP hj1 hlb1 q3
set_option maxHeartbeats 8000000 in
theorem r_one {d : Nat} (hd : 77 ≤ d) (hT : T.length < 1000) {od : Bool} {A : Int → Int} {N : Int} {v : Nat → Int} {R : Nat → Int → Int} {j l : Int} (hP : RPR od A N v R) (hj : 0 ≤ j ∧ j ≤ tk_nt A N) (hl : 0 ≤ l ∧ l ≤ 50) {n : Nat} {res : dQ} (hdn : d_cl od (tk_C A N) (tk_X A N) n j l = some res) : im_ct ro T d 159 [mr 0] (MW (PW v j l (-1)) R) (fun r w => r = none ∧ RPq A N v R res w) := by
  obtain ⟨d, rfl⟩ : ∃ e, d = e + 1 := ⟨d - 1, by omega⟩
  have hv10 := hP.2.2.2.2.2
  cases od with
  | false =>
    refine im_ct_of (own := 9) (ret := none) (code := ab_k_X9_readOne) (nL := 1) (L0 := [some (mr 0)]) (n := 24) rfl rfl rfl rfl rfl rfl rfl rfl rfl ?_
    refine im_g 2 (y := (4, _, _, _)) rfl trivial ?_
    refine im_bT rfl rfl ⟨(by show im_ir (v 10); rw [hv10]; decide), trivial⟩ (show v 10 = 0 from hv10) ?_
    refine im_g 1 (y := (15, _, _, _)) rfl trivial ?_
    refine im_cM rfl rfl (r_clause (by omega) hT hP hj hl (res := res) hdn) rfl hT (fun v1 w1 hq => ?_)
    obtain ⟨rfl, hw⟩ := hq; obtain ⟨v2, hv2⟩ : ∃ v2, w1 = MW v2 R := RPq_w hw; subst hv2
    refine ⟨v2, R, rfl, rfl, ?_⟩
    refine im_r rfl rfl trivial rfl ?_
    exact ⟨rfl, hw⟩
  | true =>
    refine im_ct_of (own := 9) (ret := none) (code := ab_k_X9_readOne) (nL := 1) (L0 := [some (mr 0)]) (n := 24) rfl rfl rfl rfl rfl rfl rfl rfl rfl ?_
    refine im_g 2 (y := (4, _, _, _)) rfl trivial ?_
    refine im_bF rfl rfl ⟨(by show im_ir (v 10); rw [hv10]; decide), trivial⟩ (show ¬ v 10 = 0 by rw [hv10]; decide) ?_
    refine im_g 1 (y := (8, _, _, _)) rfl trivial ?_
    refine im_cM rfl rfl (r_order (by omega) hT hP hj hl (res := res) hdn) rfl hT (fun v1 w1 hq => ?_)
    obtain ⟨rfl, hw⟩ := hq; obtain ⟨v2, hv2⟩ : ∃ v2, w1 = MW v2 R := RPq_w hw; subst hv2
    refine ⟨v2, R, rfl, rfl, ?_⟩
    refine im_g 1 (y := (18, _, _, _)) rfl trivial ?_
    refine im_r rfl rfl trivial rfl ?_
    exact ⟨rfl, hw⟩
end Rt2
