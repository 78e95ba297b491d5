/-! the reader reads: terms, sums, plain ones, both, tests -/
def d_ntR (nb : Bool) (res : dR) : dR := match res with
  | .inl f => .inl f
  | .inr (j, l, m) => .inr (j, l, d_nt nb m)
theorem d_nots_t (c : Int → Int) : ∀ (n : Nat) (i : Int) (b : Bool) (i1 : Int), d_nots c n i b = (i1, !b) → i < i1
  | 0, i, b, i1, h => by
    cases b
    · cases h
    · cases h
  | n + 1, i, b, i1, h => by
    unfold d_nots at h
    split at h
    · have := d_nots_ge c n (i + 1) (!b)
      rw [h] at this
      have t : i + 1 ≤ i1 := this
      omega
    · cases b
      · cases h
      · cases h
def Rd6 (ro : ab_R) (T : List im_T) (n : Nat) : Prop := ∀ (d : Nat) (od : Bool) (q : Nat → Int) (A : Int → Int) (N : Int) (u : Int × Int × Int) (c kk : Int → Int) (o i i0 l : Int) (res : dR) (nb : Bool) (x3 : Option im_V), tk_ok A → RdS od A N i l u c q → (0 ≤ o ∧ o ≤ 8) → 8 * (8 - o) + 6 ≤ (d : Int) → i ≤ tk_nt A N → u.1 + (tk_nt A N - i0) ≤ 436 → (i0 ≤ i ∧ (nb = true → i0 < i)) → dn od (tk_C A N) (tk_X A N) n 6 o i l d_0 = some res → im_wp ro (ab_Ev ro ab_codes d) 5 none ab_k_X5_readPlain 5 T (fun r w => r = none ∧ ∃ q' u' c', w = RW 0 q' A u' c' kk ∧ RdP od A N i0 u c (3 * (8 - o) + 4) (d_ntR nb res) q' u' c') (40, [some (mr 0), some (.inl o), some (.inl (e_bi nb)), x3], [], RW 0 q A u c kk)
section Rf
variable {ro : ab_R} {T : List im_T}
set_option maxHeartbeats 8000000 in
theorem rd_R4 (hT : T.length < 1000) {n : Nat} (h1 : RdM ro T n 1 53 5 2) (h4 : RdR ro T n 4 ab_k_X5_readSum 5 3) : RdR ro T (n + 1) 4 ab_k_X5_readSum 5 3 := by
  intro d od q A N i0 u0 u c0 c kk o i l ci a res x3 hA hP hu0 ho hd hnt hroom hci hdn
  have hS := RdP_S hP
  have hN := RdS_N hS
  have hTS := hS.2.2
  have hu1 := hTS.1
  have hub := hP.2.2.2.2.1
  have htn := (tk_nt_b (A := A) hN).1
  have hCe := @tk_C_end A N hN
  refine im_g 2 (y := (11, _, _, _)) rfl trivial ?_
  refine im_b rfl rfl ⟨(by omega), (by omega), trivial⟩ (fun br1 => ?_) (fun br1 => ?_)
  · refine im_r rfl rfl trivial rfl ?_
    have hC0 := hCe i (by omega)
    rw [dn_4, if_neg (by omega)] at hdn
    have hres : res = .inr (i, l, a) := by cases hdn; rfl
    rw [hres]
    exact ⟨rfl, _, _, _, rfl, hP⟩
  · refine im_g 2 (y := (17, _, _, _)) rfl trivial ?_
    refine im_call [0,1,2,3,4] rfl rfl (w_sign (q := q) (u := u) (c := c) (k := kk) (by omega) hT hA hS (b := 43) (by decide)) rfl rfl rfl (by decide) rfl (by decide) hT (fun v1 w1 hq => ?_)
    obtain ⟨rfl, rfl⟩ := hq
    refine ⟨_, _, RW 0 q A u c kk, rfl, rfl, rfl, ?_⟩
    refine im_b rfl rfl ⟨(by omega), trivial⟩ (fun br2 => ?_) (fun br2 => ?_)
    · have c20 : tk_C A N i = 100 + 43 := by
        by_cases hh : tk_C A N i = 100 + 43
        · exact hh
        · rw [if_neg hh] at br2; exact absurd rfl br2
      clear br2
      refine im_g 2 (y := (35, _, _, _)) rfl trivial ?_
      refine im_call [0,1,2,3,4] rfl rfl (w_sign (q := q) (u := u) (c := c) (k := kk) (by omega) hT hA hS (b := 43) (by decide)) rfl rfl rfl (by decide) rfl (by decide) hT (fun v1 w1 hq => ?_)
      obtain ⟨rfl, rfl⟩ := hq
      refine ⟨_, _, RW 0 q A u c kk, rfl, rfl, rfl, ?_⟩
      refine im_b rfl rfl ⟨(by omega), trivial⟩ (fun br3 => ?_) (fun br3 => ?_)
      · have c38 : ¬ (tk_C A N i = 100 + 43) := by
          intro hh
          rw [if_pos hh] at br3
          exact absurd br3 (by decide)
        clear br3
        refine im_g 2 (y := (47, _, _, _)) rfl trivial ?_
        rw [dn_4, if_pos (by omega), show d_sw (tk_C A N i) = 4 by unfold d_sw; rw [if_neg (by omega)]] at hdn
        have hlt := tk_lt (A := A) hN (i := i) (by omega)
        have hS1 := RdS_next hS
        rcases d_bind_s hdn with ⟨f, q1, hres⟩ | ⟨j1, l1, m1, q1, q3⟩
        · refine im_g 1 (y := (48, _, _, _)) rfl trivial ?_
          refine im_call [0,1,2,3,4] rfl rfl (c_step (q := q) (A := A) (u := u) (c := c) (k := kk) (by omega) hT hA hS.2.1) rfl rfl rfl (by decide) rfl (by decide) hT (fun v1 w1 hq => ?_)
          obtain ⟨rfl, rfl⟩ := hq
          refine ⟨_, _, RW 0 (rd_next A q) A u c kk, rfl, rfl, rfl, ?_⟩
          refine im_g 2 (y := (53, _, _, _)) rfl trivial ?_
          refine im_call [0,1,2,3,4] rfl rfl (h1 d od (rd_next A q) A N (u) (c) kk (o) (i + 1) (l) (.inl f) hA (hS1) (by omega) (by omega) (by omega) (by omega) q1) rfl rfl rfl (by decide) rfl (by decide) hT (fun v1 w1 hq => ?_)
          obtain ⟨rfl, q2, u2, c2, rfl, hP2⟩ := hq
          refine ⟨_, _, RW 0 q2 A u2 c2 kk, rfl, rfl, rfl, ?_⟩
          refine im_g 3 (y := (59, _, _, _)) rfl trivial ?_
          refine im_call [0,1,2,3,4] rfl rfl (c_emit (q := q2) (A := A) (u := u2) (c := c2) (k := kk) (by omega) hT hP2.2.1 (wt := 4) (x := 0) (by decide) (by decide)) rfl rfl rfl (by decide) rfl (by decide) hT (fun v1 w1 hq => ?_)
          obtain ⟨rfl, rfl⟩ := hq
          refine ⟨_, _, RW 0 q2 A (rd_emu u2) (rd_emc u2 c2 4 0) kk, rfl, rfl, rfl, ?_⟩
          refine im_g 3 (y := (7, _, _, _)) rfl trivial ?_
          refine im_g 2 (y := (11, _, _, _)) rfl trivial ?_
          refine im_b rfl rfl ⟨(by omega), (by omega), trivial⟩ (fun br1 => ?_) (fun br1 => ?_)
          · refine im_r rfl rfl trivial rfl ?_
            rw [hres]
            exact ⟨rfl, _, _, _, rfl, RdP_TS (RdP_f hP2 hP.2.2.1) (TS_em hP2.2.1 (by decide) (by decide)) rfl⟩
          · refine im_g 2 (y := (17, _, _, _)) rfl trivial ?_
            refine im_call [0,1,2,3,4] rfl rfl (c_isSignD (q := q2) (A := A) (u := (rd_emu u2)) (c := (rd_emc u2 c2 4 0)) (k := kk) (by omega) hT (RdP_D hP2).2.2.1) rfl rfl rfl (by decide) rfl (by decide) hT (fun v1 w1 hq => ?_)
            obtain ⟨rfl, rfl⟩ := hq
            refine ⟨_, _, RW 0 q2 A (rd_emu u2) (rd_emc u2 c2 4 0) kk, rfl, rfl, rfl, ?_⟩
            refine im_bF rfl rfl ⟨(by omega), trivial⟩ (fun z => z rfl) ?_
            refine im_g 2 (y := (26, _, _, _)) rfl trivial ?_
            refine im_call [0,1,2,3,4] rfl rfl (c_isSignD (q := q2) (A := A) (u := (rd_emu u2)) (c := (rd_emc u2 c2 4 0)) (k := kk) (by omega) hT (RdP_D hP2).2.2.1) rfl rfl rfl (by decide) rfl (by decide) hT (fun v1 w1 hq => ?_)
            obtain ⟨rfl, rfl⟩ := hq
            refine ⟨_, _, RW 0 q2 A (rd_emu u2) (rd_emc u2 c2 4 0) kk, rfl, rfl, rfl, ?_⟩
            refine im_bT rfl rfl ⟨(by omega), trivial⟩ rfl ?_
            refine im_r rfl rfl trivial rfl ?_
            rw [hres]
            exact ⟨rfl, _, _, _, rfl, RdP_TS (RdP_f hP2 hP.2.2.1) (TS_em hP2.2.1 (by decide) (by decide)) rfl⟩
        · have hj1 := dn_nt hN (by decide) hlt q1
          refine im_g 1 (y := (48, _, _, _)) rfl trivial ?_
          refine im_call [0,1,2,3,4] rfl rfl (c_step (q := q) (A := A) (u := u) (c := c) (k := kk) (by omega) hT hA hS.2.1) rfl rfl rfl (by decide) rfl (by decide) hT (fun v1 w1 hq => ?_)
          obtain ⟨rfl, rfl⟩ := hq
          refine ⟨_, _, RW 0 (rd_next A q) A u c kk, rfl, rfl, rfl, ?_⟩
          refine im_g 2 (y := (53, _, _, _)) rfl trivial ?_
          refine im_call [0,1,2,3,4] rfl rfl (h1 d od (rd_next A q) A N (u) (c) kk (o) (i + 1) (l) (.inr (j1, l1, m1)) hA (hS1) (by omega) (by omega) (by omega) (by omega) q1) rfl rfl rfl (by decide) rfl (by decide) hT (fun v1 w1 hq => ?_)
          obtain ⟨rfl, q2, u2, c2, rfl, hP2⟩ := hq
          refine ⟨_, _, RW 0 q2 A u2 c2 kk, rfl, rfl, rfl, ?_⟩
          refine im_g 3 (y := (59, _, _, _)) rfl trivial ?_
          refine im_call [0,1,2,3,4] rfl rfl (c_emit (q := q2) (A := A) (u := u2) (c := c2) (k := kk) (by omega) hT hP2.2.1 (wt := 4) (x := 0) (by decide) (by decide)) rfl rfl rfl (by decide) rfl (by decide) hT (fun v1 w1 hq => ?_)
          obtain ⟨rfl, rfl⟩ := hq
          refine ⟨_, _, RW 0 q2 A (rd_emu u2) (rd_emc u2 c2 4 0) kk, rfl, rfl, rfl, ?_⟩
          refine im_g 3 (y := (7, _, _, _)) rfl trivial ?_
          exact h4 d od _ A N i0 u0 _ c0 _ kk o j1 l1 (ci + 1) _ res _ hA (RdP_op (a_ := tk_nt A N) hP hP2 hroom hj1.2 (by omega) (by decide) hu0) hu0 ho (by omega) hj1.2 hroom (by omega) q3
      · have c38 : tk_C A N i = 100 + 43 := by
          by_cases hh : tk_C A N i = 100 + 43
          · exact hh
          · rw [if_neg hh] at br3; exact absurd rfl br3
        clear br3
        refine im_g 3 (y := (47, _, _, _)) rfl trivial ?_
        rw [dn_4, if_pos (by omega), show d_sw (tk_C A N i) = 3 by unfold d_sw; rw [if_pos (by omega)]] at hdn
        have hlt := tk_lt (A := A) hN (i := i) (by omega)
        have hS1 := RdS_next hS
        rcases d_bind_s hdn with ⟨f, q1, hres⟩ | ⟨j1, l1, m1, q1, q3⟩
        · refine im_g 1 (y := (48, _, _, _)) rfl trivial ?_
          refine im_call [0,1,2,3,4] rfl rfl (c_step (q := q) (A := A) (u := u) (c := c) (k := kk) (by omega) hT hA hS.2.1) rfl rfl rfl (by decide) rfl (by decide) hT (fun v1 w1 hq => ?_)
          obtain ⟨rfl, rfl⟩ := hq
          refine ⟨_, _, RW 0 (rd_next A q) A u c kk, rfl, rfl, rfl, ?_⟩
          refine im_g 2 (y := (53, _, _, _)) rfl trivial ?_
          refine im_call [0,1,2,3,4] rfl rfl (h1 d od (rd_next A q) A N (u) (c) kk (o) (i + 1) (l) (.inl f) hA (hS1) (by omega) (by omega) (by omega) (by omega) q1) rfl rfl rfl (by decide) rfl (by decide) hT (fun v1 w1 hq => ?_)
          obtain ⟨rfl, q2, u2, c2, rfl, hP2⟩ := hq
          refine ⟨_, _, RW 0 q2 A u2 c2 kk, rfl, rfl, rfl, ?_⟩
          refine im_g 3 (y := (59, _, _, _)) rfl trivial ?_
          refine im_call [0,1,2,3,4] rfl rfl (c_emit (q := q2) (A := A) (u := u2) (c := c2) (k := kk) (by omega) hT hP2.2.1 (wt := 3) (x := 0) (by decide) (by decide)) rfl rfl rfl (by decide) rfl (by decide) hT (fun v1 w1 hq => ?_)
          obtain ⟨rfl, rfl⟩ := hq
          refine ⟨_, _, RW 0 q2 A (rd_emu u2) (rd_emc u2 c2 3 0) kk, rfl, rfl, rfl, ?_⟩
          refine im_g 3 (y := (7, _, _, _)) rfl trivial ?_
          refine im_g 2 (y := (11, _, _, _)) rfl trivial ?_
          refine im_b rfl rfl ⟨(by omega), (by omega), trivial⟩ (fun br1 => ?_) (fun br1 => ?_)
          · refine im_r rfl rfl trivial rfl ?_
            rw [hres]
            exact ⟨rfl, _, _, _, rfl, RdP_TS (RdP_f hP2 hP.2.2.1) (TS_em hP2.2.1 (by decide) (by decide)) rfl⟩
          · refine im_g 2 (y := (17, _, _, _)) rfl trivial ?_
            refine im_call [0,1,2,3,4] rfl rfl (c_isSignD (q := q2) (A := A) (u := (rd_emu u2)) (c := (rd_emc u2 c2 3 0)) (k := kk) (by omega) hT (RdP_D hP2).2.2.1) rfl rfl rfl (by decide) rfl (by decide) hT (fun v1 w1 hq => ?_)
            obtain ⟨rfl, rfl⟩ := hq
            refine ⟨_, _, RW 0 q2 A (rd_emu u2) (rd_emc u2 c2 3 0) kk, rfl, rfl, rfl, ?_⟩
            refine im_bF rfl rfl ⟨(by omega), trivial⟩ (fun z => z rfl) ?_
            refine im_g 2 (y := (26, _, _, _)) rfl trivial ?_
            refine im_call [0,1,2,3,4] rfl rfl (c_isSignD (q := q2) (A := A) (u := (rd_emu u2)) (c := (rd_emc u2 c2 3 0)) (k := kk) (by omega) hT (RdP_D hP2).2.2.1) rfl rfl rfl (by decide) rfl (by decide) hT (fun v1 w1 hq => ?_)
            obtain ⟨rfl, rfl⟩ := hq
            refine ⟨_, _, RW 0 q2 A (rd_emu u2) (rd_emc u2 c2 3 0) kk, rfl, rfl, rfl, ?_⟩
            refine im_bT rfl rfl ⟨(by omega), trivial⟩ rfl ?_
            refine im_r rfl rfl trivial rfl ?_
            rw [hres]
            exact ⟨rfl, _, _, _, rfl, RdP_TS (RdP_f hP2 hP.2.2.1) (TS_em hP2.2.1 (by decide) (by decide)) rfl⟩
        · have hj1 := dn_nt hN (by decide) hlt q1
          refine im_g 1 (y := (48, _, _, _)) rfl trivial ?_
          refine im_call [0,1,2,3,4] rfl rfl (c_step (q := q) (A := A) (u := u) (c := c) (k := kk) (by omega) hT hA hS.2.1) rfl rfl rfl (by decide) rfl (by decide) hT (fun v1 w1 hq => ?_)
          obtain ⟨rfl, rfl⟩ := hq
          refine ⟨_, _, RW 0 (rd_next A q) A u c kk, rfl, rfl, rfl, ?_⟩
          refine im_g 2 (y := (53, _, _, _)) rfl trivial ?_
          refine im_call [0,1,2,3,4] rfl rfl (h1 d od (rd_next A q) A N (u) (c) kk (o) (i + 1) (l) (.inr (j1, l1, m1)) hA (hS1) (by omega) (by omega) (by omega) (by omega) q1) rfl rfl rfl (by decide) rfl (by decide) hT (fun v1 w1 hq => ?_)
          obtain ⟨rfl, q2, u2, c2, rfl, hP2⟩ := hq
          refine ⟨_, _, RW 0 q2 A u2 c2 kk, rfl, rfl, rfl, ?_⟩
          refine im_g 3 (y := (59, _, _, _)) rfl trivial ?_
          refine im_call [0,1,2,3,4] rfl rfl (c_emit (q := q2) (A := A) (u := u2) (c := c2) (k := kk) (by omega) hT hP2.2.1 (wt := 3) (x := 0) (by decide) (by decide)) rfl rfl rfl (by decide) rfl (by decide) hT (fun v1 w1 hq => ?_)
          obtain ⟨rfl, rfl⟩ := hq
          refine ⟨_, _, RW 0 q2 A (rd_emu u2) (rd_emc u2 c2 3 0) kk, rfl, rfl, rfl, ?_⟩
          refine im_g 3 (y := (7, _, _, _)) rfl trivial ?_
          exact h4 d od _ A N i0 u0 _ c0 _ kk o j1 l1 (ci + 1) _ res _ hA (RdP_op (a_ := tk_nt A N) hP hP2 hroom hj1.2 (by omega) (by decide) hu0) hu0 ho (by omega) hj1.2 hroom (by omega) q3
    · have c20 : ¬ (tk_C A N i = 100 + 43) := by
        intro hh
        rw [if_pos hh] at br2
        exact br2 (by decide)
      clear br2
      refine im_g 2 (y := (26, _, _, _)) rfl trivial ?_
      refine im_call [0,1,2,3,4] rfl rfl (w_sign (q := q) (u := u) (c := c) (k := kk) (by omega) hT hA hS (b := 45) (by decide)) rfl rfl rfl (by decide) rfl (by decide) hT (fun v1 w1 hq => ?_)
      obtain ⟨rfl, rfl⟩ := hq
      refine ⟨_, _, RW 0 q A u c kk, rfl, rfl, rfl, ?_⟩
      refine im_b rfl rfl ⟨(by omega), trivial⟩ (fun br4 => ?_) (fun br4 => ?_)
      · have c29 : ¬ (tk_C A N i = 100 + 45) := by
          intro hh
          rw [if_pos hh] at br4
          exact absurd br4 (by decide)
        clear br4
        refine im_r rfl rfl trivial rfl ?_
        rw [dn_4, if_neg (by omega)] at hdn
        have hres : res = .inr (i, l, a) := by cases hdn; rfl
        rw [hres]
        exact ⟨rfl, _, _, _, rfl, hP⟩
      · have c29 : tk_C A N i = 100 + 45 := by
          by_cases hh : tk_C A N i = 100 + 45
          · exact hh
          · rw [if_neg hh] at br4; exact absurd rfl br4
        clear br4
        refine im_g 2 (y := (35, _, _, _)) rfl trivial ?_
        refine im_call [0,1,2,3,4] rfl rfl (w_sign (q := q) (u := u) (c := c) (k := kk) (by omega) hT hA hS (b := 43) (by decide)) rfl rfl rfl (by decide) rfl (by decide) hT (fun v1 w1 hq => ?_)
        obtain ⟨rfl, rfl⟩ := hq
        refine ⟨_, _, RW 0 q A u c kk, rfl, rfl, rfl, ?_⟩
        refine im_b rfl rfl ⟨(by omega), trivial⟩ (fun br5 => ?_) (fun br5 => ?_)
        · have c38 : ¬ (tk_C A N i = 100 + 43) := by
            intro hh
            rw [if_pos hh] at br5
            exact absurd br5 (by decide)
          clear br5
          refine im_g 2 (y := (47, _, _, _)) rfl trivial ?_
          rw [dn_4, if_pos (by omega), show d_sw (tk_C A N i) = 4 by unfold d_sw; rw [if_neg (by omega)]] at hdn
          have hlt := tk_lt (A := A) hN (i := i) (by omega)
          have hS1 := RdS_next hS
          rcases d_bind_s hdn with ⟨f, q1, hres⟩ | ⟨j1, l1, m1, q1, q3⟩
          · refine im_g 1 (y := (48, _, _, _)) rfl trivial ?_
            refine im_call [0,1,2,3,4] rfl rfl (c_step (q := q) (A := A) (u := u) (c := c) (k := kk) (by omega) hT hA hS.2.1) rfl rfl rfl (by decide) rfl (by decide) hT (fun v1 w1 hq => ?_)
            obtain ⟨rfl, rfl⟩ := hq
            refine ⟨_, _, RW 0 (rd_next A q) A u c kk, rfl, rfl, rfl, ?_⟩
            refine im_g 2 (y := (53, _, _, _)) rfl trivial ?_
            refine im_call [0,1,2,3,4] rfl rfl (h1 d od (rd_next A q) A N (u) (c) kk (o) (i + 1) (l) (.inl f) hA (hS1) (by omega) (by omega) (by omega) (by omega) q1) rfl rfl rfl (by decide) rfl (by decide) hT (fun v1 w1 hq => ?_)
            obtain ⟨rfl, q2, u2, c2, rfl, hP2⟩ := hq
            refine ⟨_, _, RW 0 q2 A u2 c2 kk, rfl, rfl, rfl, ?_⟩
            refine im_g 3 (y := (59, _, _, _)) rfl trivial ?_
            refine im_call [0,1,2,3,4] rfl rfl (c_emit (q := q2) (A := A) (u := u2) (c := c2) (k := kk) (by omega) hT hP2.2.1 (wt := 4) (x := 0) (by decide) (by decide)) rfl rfl rfl (by decide) rfl (by decide) hT (fun v1 w1 hq => ?_)
            obtain ⟨rfl, rfl⟩ := hq
            refine ⟨_, _, RW 0 q2 A (rd_emu u2) (rd_emc u2 c2 4 0) kk, rfl, rfl, rfl, ?_⟩
            refine im_g 3 (y := (7, _, _, _)) rfl trivial ?_
            refine im_g 2 (y := (11, _, _, _)) rfl trivial ?_
            refine im_b rfl rfl ⟨(by omega), (by omega), trivial⟩ (fun br1 => ?_) (fun br1 => ?_)
            · refine im_r rfl rfl trivial rfl ?_
              rw [hres]
              exact ⟨rfl, _, _, _, rfl, RdP_TS (RdP_f hP2 hP.2.2.1) (TS_em hP2.2.1 (by decide) (by decide)) rfl⟩
            · refine im_g 2 (y := (17, _, _, _)) rfl trivial ?_
              refine im_call [0,1,2,3,4] rfl rfl (c_isSignD (q := q2) (A := A) (u := (rd_emu u2)) (c := (rd_emc u2 c2 4 0)) (k := kk) (by omega) hT (RdP_D hP2).2.2.1) rfl rfl rfl (by decide) rfl (by decide) hT (fun v1 w1 hq => ?_)
              obtain ⟨rfl, rfl⟩ := hq
              refine ⟨_, _, RW 0 q2 A (rd_emu u2) (rd_emc u2 c2 4 0) kk, rfl, rfl, rfl, ?_⟩
              refine im_bF rfl rfl ⟨(by omega), trivial⟩ (fun z => z rfl) ?_
              refine im_g 2 (y := (26, _, _, _)) rfl trivial ?_
              refine im_call [0,1,2,3,4] rfl rfl (c_isSignD (q := q2) (A := A) (u := (rd_emu u2)) (c := (rd_emc u2 c2 4 0)) (k := kk) (by omega) hT (RdP_D hP2).2.2.1) rfl rfl rfl (by decide) rfl (by decide) hT (fun v1 w1 hq => ?_)
              obtain ⟨rfl, rfl⟩ := hq
              refine ⟨_, _, RW 0 q2 A (rd_emu u2) (rd_emc u2 c2 4 0) kk, rfl, rfl, rfl, ?_⟩
              refine im_bT rfl rfl ⟨(by omega), trivial⟩ rfl ?_
              refine im_r rfl rfl trivial rfl ?_
              rw [hres]
              exact ⟨rfl, _, _, _, rfl, RdP_TS (RdP_f hP2 hP.2.2.1) (TS_em hP2.2.1 (by decide) (by decide)) rfl⟩
          · have hj1 := dn_nt hN (by decide) hlt q1
            refine im_g 1 (y := (48, _, _, _)) rfl trivial ?_
            refine im_call [0,1,2,3,4] rfl rfl (c_step (q := q) (A := A) (u := u) (c := c) (k := kk) (by omega) hT hA hS.2.1) rfl rfl rfl (by decide) rfl (by decide) hT (fun v1 w1 hq => ?_)
            obtain ⟨rfl, rfl⟩ := hq
            refine ⟨_, _, RW 0 (rd_next A q) A u c kk, rfl, rfl, rfl, ?_⟩
            refine im_g 2 (y := (53, _, _, _)) rfl trivial ?_
            refine im_call [0,1,2,3,4] rfl rfl (h1 d od (rd_next A q) A N (u) (c) kk (o) (i + 1) (l) (.inr (j1, l1, m1)) hA (hS1) (by omega) (by omega) (by omega) (by omega) q1) rfl rfl rfl (by decide) rfl (by decide) hT (fun v1 w1 hq => ?_)
            obtain ⟨rfl, q2, u2, c2, rfl, hP2⟩ := hq
            refine ⟨_, _, RW 0 q2 A u2 c2 kk, rfl, rfl, rfl, ?_⟩
            refine im_g 3 (y := (59, _, _, _)) rfl trivial ?_
            refine im_call [0,1,2,3,4] rfl rfl (c_emit (q := q2) (A := A) (u := u2) (c := c2) (k := kk) (by omega) hT hP2.2.1 (wt := 4) (x := 0) (by decide) (by decide)) rfl rfl rfl (by decide) rfl (by decide) hT (fun v1 w1 hq => ?_)
            obtain ⟨rfl, rfl⟩ := hq
            refine ⟨_, _, RW 0 q2 A (rd_emu u2) (rd_emc u2 c2 4 0) kk, rfl, rfl, rfl, ?_⟩
            refine im_g 3 (y := (7, _, _, _)) rfl trivial ?_
            exact h4 d od _ A N i0 u0 _ c0 _ kk o j1 l1 (ci + 1) _ res _ hA (RdP_op (a_ := tk_nt A N) hP hP2 hroom hj1.2 (by omega) (by decide) hu0) hu0 ho (by omega) hj1.2 hroom (by omega) q3
        · have c38 : tk_C A N i = 100 + 43 := by
            by_cases hh : tk_C A N i = 100 + 43
            · exact hh
            · rw [if_neg hh] at br5; exact absurd rfl br5
          clear br5
          refine im_g 3 (y := (47, _, _, _)) rfl trivial ?_
          rw [dn_4, if_pos (by omega), show d_sw (tk_C A N i) = 3 by unfold d_sw; rw [if_pos (by omega)]] at hdn
          have hlt := tk_lt (A := A) hN (i := i) (by omega)
          have hS1 := RdS_next hS
          rcases d_bind_s hdn with ⟨f, q1, hres⟩ | ⟨j1, l1, m1, q1, q3⟩
          · refine im_g 1 (y := (48, _, _, _)) rfl trivial ?_
            refine im_call [0,1,2,3,4] rfl rfl (c_step (q := q) (A := A) (u := u) (c := c) (k := kk) (by omega) hT hA hS.2.1) rfl rfl rfl (by decide) rfl (by decide) hT (fun v1 w1 hq => ?_)
            obtain ⟨rfl, rfl⟩ := hq
            refine ⟨_, _, RW 0 (rd_next A q) A u c kk, rfl, rfl, rfl, ?_⟩
            refine im_g 2 (y := (53, _, _, _)) rfl trivial ?_
            refine im_call [0,1,2,3,4] rfl rfl (h1 d od (rd_next A q) A N (u) (c) kk (o) (i + 1) (l) (.inl f) hA (hS1) (by omega) (by omega) (by omega) (by omega) q1) rfl rfl rfl (by decide) rfl (by decide) hT (fun v1 w1 hq => ?_)
            obtain ⟨rfl, q2, u2, c2, rfl, hP2⟩ := hq
            refine ⟨_, _, RW 0 q2 A u2 c2 kk, rfl, rfl, rfl, ?_⟩
            refine im_g 3 (y := (59, _, _, _)) rfl trivial ?_
            refine im_call [0,1,2,3,4] rfl rfl (c_emit (q := q2) (A := A) (u := u2) (c := c2) (k := kk) (by omega) hT hP2.2.1 (wt := 3) (x := 0) (by decide) (by decide)) rfl rfl rfl (by decide) rfl (by decide) hT (fun v1 w1 hq => ?_)
            obtain ⟨rfl, rfl⟩ := hq
            refine ⟨_, _, RW 0 q2 A (rd_emu u2) (rd_emc u2 c2 3 0) kk, rfl, rfl, rfl, ?_⟩
            refine im_g 3 (y := (7, _, _, _)) rfl trivial ?_
            refine im_g 2 (y := (11, _, _, _)) rfl trivial ?_
            refine im_b rfl rfl ⟨(by omega), (by omega), trivial⟩ (fun br1 => ?_) (fun br1 => ?_)
            · refine im_r rfl rfl trivial rfl ?_
              rw [hres]
              exact ⟨rfl, _, _, _, rfl, RdP_TS (RdP_f hP2 hP.2.2.1) (TS_em hP2.2.1 (by decide) (by decide)) rfl⟩
            · refine im_g 2 (y := (17, _, _, _)) rfl trivial ?_
              refine im_call [0,1,2,3,4] rfl rfl (c_isSignD (q := q2) (A := A) (u := (rd_emu u2)) (c := (rd_emc u2 c2 3 0)) (k := kk) (by omega) hT (RdP_D hP2).2.2.1) rfl rfl rfl (by decide) rfl (by decide) hT (fun v1 w1 hq => ?_)
              obtain ⟨rfl, rfl⟩ := hq
              refine ⟨_, _, RW 0 q2 A (rd_emu u2) (rd_emc u2 c2 3 0) kk, rfl, rfl, rfl, ?_⟩
              refine im_bF rfl rfl ⟨(by omega), trivial⟩ (fun z => z rfl) ?_
              refine im_g 2 (y := (26, _, _, _)) rfl trivial ?_
              refine im_call [0,1,2,3,4] rfl rfl (c_isSignD (q := q2) (A := A) (u := (rd_emu u2)) (c := (rd_emc u2 c2 3 0)) (k := kk) (by omega) hT (RdP_D hP2).2.2.1) rfl rfl rfl (by decide) rfl (by decide) hT (fun v1 w1 hq => ?_)
              obtain ⟨rfl, rfl⟩ := hq
              refine ⟨_, _, RW 0 q2 A (rd_emu u2) (rd_emc u2 c2 3 0) kk, rfl, rfl, rfl, ?_⟩
              refine im_bT rfl rfl ⟨(by omega), trivial⟩ rfl ?_
              refine im_r rfl rfl trivial rfl ?_
              rw [hres]
              exact ⟨rfl, _, _, _, rfl, RdP_TS (RdP_f hP2 hP.2.2.1) (TS_em hP2.2.1 (by decide) (by decide)) rfl⟩
          · have hj1 := dn_nt hN (by decide) hlt q1
            refine im_g 1 (y := (48, _, _, _)) rfl trivial ?_
            refine im_call [0,1,2,3,4] rfl rfl (c_step (q := q) (A := A) (u := u) (c := c) (k := kk) (by omega) hT hA hS.2.1) rfl rfl rfl (by decide) rfl (by decide) hT (fun v1 w1 hq => ?_)
            obtain ⟨rfl, rfl⟩ := hq
            refine ⟨_, _, RW 0 (rd_next A q) A u c kk, rfl, rfl, rfl, ?_⟩
            refine im_g 2 (y := (53, _, _, _)) rfl trivial ?_
            refine im_call [0,1,2,3,4] rfl rfl (h1 d od (rd_next A q) A N (u) (c) kk (o) (i + 1) (l) (.inr (j1, l1, m1)) hA (hS1) (by omega) (by omega) (by omega) (by omega) q1) rfl rfl rfl (by decide) rfl (by decide) hT (fun v1 w1 hq => ?_)
            obtain ⟨rfl, q2, u2, c2, rfl, hP2⟩ := hq
            refine ⟨_, _, RW 0 q2 A u2 c2 kk, rfl, rfl, rfl, ?_⟩
            refine im_g 3 (y := (59, _, _, _)) rfl trivial ?_
            refine im_call [0,1,2,3,4] rfl rfl (c_emit (q := q2) (A := A) (u := u2) (c := c2) (k := kk) (by omega) hT hP2.2.1 (wt := 3) (x := 0) (by decide) (by decide)) rfl rfl rfl (by decide) rfl (by decide) hT (fun v1 w1 hq => ?_)
            obtain ⟨rfl, rfl⟩ := hq
            refine ⟨_, _, RW 0 q2 A (rd_emu u2) (rd_emc u2 c2 3 0) kk, rfl, rfl, rfl, ?_⟩
            refine im_g 3 (y := (7, _, _, _)) rfl trivial ?_
            exact h4 d od _ A N i0 u0 _ c0 _ kk o j1 l1 (ci + 1) _ res _ hA (RdP_op (a_ := tk_nt A N) hP hP2 hroom hj1.2 (by omega) (by decide) hu0) hu0 ho (by omega) hj1.2 hroom (by omega) q3
set_option maxHeartbeats 8000000 in
theorem rd_R2 (hT : T.length < 1000) {n : Nat} (h0 : RdM ro T n 0 54 4 1) (h2 : RdR ro T n 2 ab_k_X5_readTerm 4 2) : RdR ro T (n + 1) 2 ab_k_X5_readTerm 4 2 := by
  intro d od q A N i0 u0 u c0 c kk o i l ci a res x3 hA hP hu0 ho hd hnt hroom hci hdn
  have hS := RdP_S hP
  have hN := RdS_N hS
  have hTS := hS.2.2
  have hu1 := hTS.1
  have hub := hP.2.2.2.2.1
  have htn := (tk_nt_b (A := A) hN).1
  have hCe := @tk_C_end A N hN
  refine im_g 2 (y := (11, _, _, _)) rfl trivial ?_
  refine im_b rfl rfl ⟨(by omega), (by omega), trivial⟩ (fun br1 => ?_) (fun br1 => ?_)
  · refine im_r rfl rfl trivial rfl ?_
    have hC0 := hCe i (by omega)
    rw [dn_2, if_neg (by omega)] at hdn
    have hres : res = .inr (i, l, a) := by cases hdn; rfl
    rw [hres]
    exact ⟨rfl, _, _, _, rfl, hP⟩
  · refine im_g 2 (y := (17, _, _, _)) rfl trivial ?_
    refine im_call [0,1,2,3,4] rfl rfl (w_sign (q := q) (u := u) (c := c) (k := kk) (by omega) hT hA hS (b := 42) (by decide)) rfl rfl rfl (by decide) rfl (by decide) hT (fun v1 w1 hq => ?_)
    obtain ⟨rfl, rfl⟩ := hq
    refine ⟨_, _, RW 0 q A u c kk, rfl, rfl, rfl, ?_⟩
    refine im_b rfl rfl ⟨(by omega), trivial⟩ (fun br2 => ?_) (fun br2 => ?_)
    · have c20 : tk_C A N i = 100 + 42 := by
        by_cases hh : tk_C A N i = 100 + 42
        · exact hh
        · rw [if_neg hh] at br2; exact absurd rfl br2
      clear br2
      refine im_g 2 (y := (44, _, _, _)) rfl trivial ?_
      refine im_call [0,1,2,3,4] rfl rfl (w_sign (q := q) (u := u) (c := c) (k := kk) (by omega) hT hA hS (b := 42) (by decide)) rfl rfl rfl (by decide) rfl (by decide) hT (fun v1 w1 hq => ?_)
      obtain ⟨rfl, rfl⟩ := hq
      refine ⟨_, _, RW 0 q A u c kk, rfl, rfl, rfl, ?_⟩
      refine im_b rfl rfl ⟨(by omega), trivial⟩ (fun br3 => ?_) (fun br3 => ?_)
      · have c47 : ¬ (tk_C A N i = 100 + 42) := by
          intro hh
          rw [if_pos hh] at br3
          exact absurd br3 (by decide)
        clear br3
        refine im_g 2 (y := (57, _, _, _)) rfl trivial ?_
        refine im_call [0,1,2,3,4] rfl rfl (w_sign (q := q) (u := u) (c := c) (k := kk) (by omega) hT hA hS (b := 47) (by decide)) rfl rfl rfl (by decide) rfl (by decide) hT (fun v1 w1 hq => ?_)
        obtain ⟨rfl, rfl⟩ := hq
        refine ⟨_, _, RW 0 q A u c kk, rfl, rfl, rfl, ?_⟩
        refine im_b rfl rfl ⟨(by omega), trivial⟩ (fun br4 => ?_) (fun br4 => ?_)
        · have c60 : ¬ (tk_C A N i = 100 + 47) := by
            intro hh
            rw [if_pos hh] at br4
            exact absurd br4 (by decide)
          clear br4
          refine im_g 2 (y := (71, _, _, _)) rfl trivial ?_
          rw [dn_2, if_pos (by omega), show d_tw (tk_C A N i) = 7 by unfold d_tw; rw [if_neg (by omega), if_neg (by omega)]] at hdn
          have hlt := tk_lt (A := A) hN (i := i) (by omega)
          have hS1 := RdS_next hS
          rcases d_bind_s hdn with ⟨f, q1, hres⟩ | ⟨j1, l1, m1, q1, q3⟩
          · refine im_g 1 (y := (72, _, _, _)) rfl trivial ?_
            refine im_call [0,1,2,3,4] rfl rfl (c_step (q := q) (A := A) (u := u) (c := c) (k := kk) (by omega) hT hA hS.2.1) rfl rfl rfl (by decide) rfl (by decide) hT (fun v1 w1 hq => ?_)
            obtain ⟨rfl, rfl⟩ := hq
            refine ⟨_, _, RW 0 (rd_next A q) A u c kk, rfl, rfl, rfl, ?_⟩
            refine im_g 2 (y := (77, _, _, _)) rfl trivial ?_
            refine im_call [0,1,2,3,4] rfl rfl (h0 d od (rd_next A q) A N (u) (c) kk (o) (i + 1) (l) (.inl f) hA (hS1) (by omega) (by omega) (by omega) (by omega) q1) rfl rfl rfl (by decide) rfl (by decide) hT (fun v1 w1 hq => ?_)
            obtain ⟨rfl, q2, u2, c2, rfl, hP2⟩ := hq
            refine ⟨_, _, RW 0 q2 A u2 c2 kk, rfl, rfl, rfl, ?_⟩
            refine im_g 3 (y := (83, _, _, _)) rfl trivial ?_
            refine im_call [0,1,2,3,4] rfl rfl (c_emit (q := q2) (A := A) (u := u2) (c := c2) (k := kk) (by omega) hT hP2.2.1 (wt := 7) (x := 0) (by decide) (by decide)) rfl rfl rfl (by decide) rfl (by decide) hT (fun v1 w1 hq => ?_)
            obtain ⟨rfl, rfl⟩ := hq
            refine ⟨_, _, RW 0 q2 A (rd_emu u2) (rd_emc u2 c2 7 0) kk, rfl, rfl, rfl, ?_⟩
            refine im_g 3 (y := (7, _, _, _)) rfl trivial ?_
            refine im_g 2 (y := (11, _, _, _)) rfl trivial ?_
            refine im_b rfl rfl ⟨(by omega), (by omega), trivial⟩ (fun br1 => ?_) (fun br1 => ?_)
            · refine im_r rfl rfl trivial rfl ?_
              rw [hres]
              exact ⟨rfl, _, _, _, rfl, RdP_TS (RdP_f hP2 hP.2.2.1) (TS_em hP2.2.1 (by decide) (by decide)) rfl⟩
            · refine im_g 2 (y := (17, _, _, _)) rfl trivial ?_
              refine im_call [0,1,2,3,4] rfl rfl (c_isSignD (q := q2) (A := A) (u := (rd_emu u2)) (c := (rd_emc u2 c2 7 0)) (k := kk) (by omega) hT (RdP_D hP2).2.2.1) rfl rfl rfl (by decide) rfl (by decide) hT (fun v1 w1 hq => ?_)
              obtain ⟨rfl, rfl⟩ := hq
              refine ⟨_, _, RW 0 q2 A (rd_emu u2) (rd_emc u2 c2 7 0) kk, rfl, rfl, rfl, ?_⟩
              refine im_bF rfl rfl ⟨(by omega), trivial⟩ (fun z => z rfl) ?_
              refine im_g 2 (y := (26, _, _, _)) rfl trivial ?_
              refine im_call [0,1,2,3,4] rfl rfl (c_isSignD (q := q2) (A := A) (u := (rd_emu u2)) (c := (rd_emc u2 c2 7 0)) (k := kk) (by omega) hT (RdP_D hP2).2.2.1) rfl rfl rfl (by decide) rfl (by decide) hT (fun v1 w1 hq => ?_)
              obtain ⟨rfl, rfl⟩ := hq
              refine ⟨_, _, RW 0 q2 A (rd_emu u2) (rd_emc u2 c2 7 0) kk, rfl, rfl, rfl, ?_⟩
              refine im_bF rfl rfl ⟨(by omega), trivial⟩ (fun z => z rfl) ?_
              refine im_g 2 (y := (35, _, _, _)) rfl trivial ?_
              refine im_call [0,1,2,3,4] rfl rfl (c_isSignD (q := q2) (A := A) (u := (rd_emu u2)) (c := (rd_emc u2 c2 7 0)) (k := kk) (by omega) hT (RdP_D hP2).2.2.1) rfl rfl rfl (by decide) rfl (by decide) hT (fun v1 w1 hq => ?_)
              obtain ⟨rfl, rfl⟩ := hq
              refine ⟨_, _, RW 0 q2 A (rd_emu u2) (rd_emc u2 c2 7 0) kk, rfl, rfl, rfl, ?_⟩
              refine im_bT rfl rfl ⟨(by omega), trivial⟩ rfl ?_
              refine im_r rfl rfl trivial rfl ?_
              rw [hres]
              exact ⟨rfl, _, _, _, rfl, RdP_TS (RdP_f hP2 hP.2.2.1) (TS_em hP2.2.1 (by decide) (by decide)) rfl⟩
          · have hj1 := dn_nt hN (by decide) hlt q1
            refine im_g 1 (y := (72, _, _, _)) rfl trivial ?_
            refine im_call [0,1,2,3,4] rfl rfl (c_step (q := q) (A := A) (u := u) (c := c) (k := kk) (by omega) hT hA hS.2.1) rfl rfl rfl (by decide) rfl (by decide) hT (fun v1 w1 hq => ?_)
            obtain ⟨rfl, rfl⟩ := hq
            refine ⟨_, _, RW 0 (rd_next A q) A u c kk, rfl, rfl, rfl, ?_⟩
            refine im_g 2 (y := (77, _, _, _)) rfl trivial ?_
            refine im_call [0,1,2,3,4] rfl rfl (h0 d od (rd_next A q) A N (u) (c) kk (o) (i + 1) (l) (.inr (j1, l1, m1)) hA (hS1) (by omega) (by omega) (by omega) (by omega) q1) rfl rfl rfl (by decide) rfl (by decide) hT (fun v1 w1 hq => ?_)
            obtain ⟨rfl, q2, u2, c2, rfl, hP2⟩ := hq
            refine ⟨_, _, RW 0 q2 A u2 c2 kk, rfl, rfl, rfl, ?_⟩
            refine im_g 3 (y := (83, _, _, _)) rfl trivial ?_
            refine im_call [0,1,2,3,4] rfl rfl (c_emit (q := q2) (A := A) (u := u2) (c := c2) (k := kk) (by omega) hT hP2.2.1 (wt := 7) (x := 0) (by decide) (by decide)) rfl rfl rfl (by decide) rfl (by decide) hT (fun v1 w1 hq => ?_)
            obtain ⟨rfl, rfl⟩ := hq
            refine ⟨_, _, RW 0 q2 A (rd_emu u2) (rd_emc u2 c2 7 0) kk, rfl, rfl, rfl, ?_⟩
            refine im_g 3 (y := (7, _, _, _)) rfl trivial ?_
            exact h2 d od _ A N i0 u0 _ c0 _ kk o j1 l1 (ci + 1) _ res _ hA (RdP_op (a_ := tk_nt A N) hP hP2 hroom hj1.2 (by omega) (by decide) hu0) hu0 ho (by omega) hj1.2 hroom (by omega) q3
        · have c60 : tk_C A N i = 100 + 47 := by
            by_cases hh : tk_C A N i = 100 + 47
            · exact hh
            · rw [if_neg hh] at br4; exact absurd rfl br4
          clear br4
          refine im_g 3 (y := (71, _, _, _)) rfl trivial ?_
          rw [dn_2, if_pos (by omega), show d_tw (tk_C A N i) = 6 by unfold d_tw; rw [if_neg (by omega), if_pos (by omega)]] at hdn
          have hlt := tk_lt (A := A) hN (i := i) (by omega)
          have hS1 := RdS_next hS
          rcases d_bind_s hdn with ⟨f, q1, hres⟩ | ⟨j1, l1, m1, q1, q3⟩
          · refine im_g 1 (y := (72, _, _, _)) rfl trivial ?_
            refine im_call [0,1,2,3,4] rfl rfl (c_step (q := q) (A := A) (u := u) (c := c) (k := kk) (by omega) hT hA hS.2.1) rfl rfl rfl (by decide) rfl (by decide) hT (fun v1 w1 hq => ?_)
            obtain ⟨rfl, rfl⟩ := hq
            refine ⟨_, _, RW 0 (rd_next A q) A u c kk, rfl, rfl, rfl, ?_⟩
            refine im_g 2 (y := (77, _, _, _)) rfl trivial ?_
            refine im_call [0,1,2,3,4] rfl rfl (h0 d od (rd_next A q) A N (u) (c) kk (o) (i + 1) (l) (.inl f) hA (hS1) (by omega) (by omega) (by omega) (by omega) q1) rfl rfl rfl (by decide) rfl (by decide) hT (fun v1 w1 hq => ?_)
            obtain ⟨rfl, q2, u2, c2, rfl, hP2⟩ := hq
            refine ⟨_, _, RW 0 q2 A u2 c2 kk, rfl, rfl, rfl, ?_⟩
            refine im_g 3 (y := (83, _, _, _)) rfl trivial ?_
            refine im_call [0,1,2,3,4] rfl rfl (c_emit (q := q2) (A := A) (u := u2) (c := c2) (k := kk) (by omega) hT hP2.2.1 (wt := 6) (x := 0) (by decide) (by decide)) rfl rfl rfl (by decide) rfl (by decide) hT (fun v1 w1 hq => ?_)
            obtain ⟨rfl, rfl⟩ := hq
            refine ⟨_, _, RW 0 q2 A (rd_emu u2) (rd_emc u2 c2 6 0) kk, rfl, rfl, rfl, ?_⟩
            refine im_g 3 (y := (7, _, _, _)) rfl trivial ?_
            refine im_g 2 (y := (11, _, _, _)) rfl trivial ?_
            refine im_b rfl rfl ⟨(by omega), (by omega), trivial⟩ (fun br1 => ?_) (fun br1 => ?_)
            · refine im_r rfl rfl trivial rfl ?_
              rw [hres]
              exact ⟨rfl, _, _, _, rfl, RdP_TS (RdP_f hP2 hP.2.2.1) (TS_em hP2.2.1 (by decide) (by decide)) rfl⟩
            · refine im_g 2 (y := (17, _, _, _)) rfl trivial ?_
              refine im_call [0,1,2,3,4] rfl rfl (c_isSignD (q := q2) (A := A) (u := (rd_emu u2)) (c := (rd_emc u2 c2 6 0)) (k := kk) (by omega) hT (RdP_D hP2).2.2.1) rfl rfl rfl (by decide) rfl (by decide) hT (fun v1 w1 hq => ?_)
              obtain ⟨rfl, rfl⟩ := hq
              refine ⟨_, _, RW 0 q2 A (rd_emu u2) (rd_emc u2 c2 6 0) kk, rfl, rfl, rfl, ?_⟩
              refine im_bF rfl rfl ⟨(by omega), trivial⟩ (fun z => z rfl) ?_
              refine im_g 2 (y := (26, _, _, _)) rfl trivial ?_
              refine im_call [0,1,2,3,4] rfl rfl (c_isSignD (q := q2) (A := A) (u := (rd_emu u2)) (c := (rd_emc u2 c2 6 0)) (k := kk) (by omega) hT (RdP_D hP2).2.2.1) rfl rfl rfl (by decide) rfl (by decide) hT (fun v1 w1 hq => ?_)
              obtain ⟨rfl, rfl⟩ := hq
              refine ⟨_, _, RW 0 q2 A (rd_emu u2) (rd_emc u2 c2 6 0) kk, rfl, rfl, rfl, ?_⟩
              refine im_bF rfl rfl ⟨(by omega), trivial⟩ (fun z => z rfl) ?_
              refine im_g 2 (y := (35, _, _, _)) rfl trivial ?_
              refine im_call [0,1,2,3,4] rfl rfl (c_isSignD (q := q2) (A := A) (u := (rd_emu u2)) (c := (rd_emc u2 c2 6 0)) (k := kk) (by omega) hT (RdP_D hP2).2.2.1) rfl rfl rfl (by decide) rfl (by decide) hT (fun v1 w1 hq => ?_)
              obtain ⟨rfl, rfl⟩ := hq
              refine ⟨_, _, RW 0 q2 A (rd_emu u2) (rd_emc u2 c2 6 0) kk, rfl, rfl, rfl, ?_⟩
              refine im_bT rfl rfl ⟨(by omega), trivial⟩ rfl ?_
              refine im_r rfl rfl trivial rfl ?_
              rw [hres]
              exact ⟨rfl, _, _, _, rfl, RdP_TS (RdP_f hP2 hP.2.2.1) (TS_em hP2.2.1 (by decide) (by decide)) rfl⟩
          · have hj1 := dn_nt hN (by decide) hlt q1
            refine im_g 1 (y := (72, _, _, _)) rfl trivial ?_
            refine im_call [0,1,2,3,4] rfl rfl (c_step (q := q) (A := A) (u := u) (c := c) (k := kk) (by omega) hT hA hS.2.1) rfl rfl rfl (by decide) rfl (by decide) hT (fun v1 w1 hq => ?_)
            obtain ⟨rfl, rfl⟩ := hq
            refine ⟨_, _, RW 0 (rd_next A q) A u c kk, rfl, rfl, rfl, ?_⟩
            refine im_g 2 (y := (77, _, _, _)) rfl trivial ?_
            refine im_call [0,1,2,3,4] rfl rfl (h0 d od (rd_next A q) A N (u) (c) kk (o) (i + 1) (l) (.inr (j1, l1, m1)) hA (hS1) (by omega) (by omega) (by omega) (by omega) q1) rfl rfl rfl (by decide) rfl (by decide) hT (fun v1 w1 hq => ?_)
            obtain ⟨rfl, q2, u2, c2, rfl, hP2⟩ := hq
            refine ⟨_, _, RW 0 q2 A u2 c2 kk, rfl, rfl, rfl, ?_⟩
            refine im_g 3 (y := (83, _, _, _)) rfl trivial ?_
            refine im_call [0,1,2,3,4] rfl rfl (c_emit (q := q2) (A := A) (u := u2) (c := c2) (k := kk) (by omega) hT hP2.2.1 (wt := 6) (x := 0) (by decide) (by decide)) rfl rfl rfl (by decide) rfl (by decide) hT (fun v1 w1 hq => ?_)
            obtain ⟨rfl, rfl⟩ := hq
            refine ⟨_, _, RW 0 q2 A (rd_emu u2) (rd_emc u2 c2 6 0) kk, rfl, rfl, rfl, ?_⟩
            refine im_g 3 (y := (7, _, _, _)) rfl trivial ?_
            exact h2 d od _ A N i0 u0 _ c0 _ kk o j1 l1 (ci + 1) _ res _ hA (RdP_op (a_ := tk_nt A N) hP hP2 hroom hj1.2 (by omega) (by decide) hu0) hu0 ho (by omega) hj1.2 hroom (by omega) q3
      · have c47 : tk_C A N i = 100 + 42 := by
          by_cases hh : tk_C A N i = 100 + 42
          · exact hh
          · rw [if_neg hh] at br3; exact absurd rfl br3
        clear br3
        refine im_g 3 (y := (71, _, _, _)) rfl trivial ?_
        rw [dn_2, if_pos (by omega), show d_tw (tk_C A N i) = 5 by unfold d_tw; rw [if_pos (by omega)]] at hdn
        have hlt := tk_lt (A := A) hN (i := i) (by omega)
        have hS1 := RdS_next hS
        rcases d_bind_s hdn with ⟨f, q1, hres⟩ | ⟨j1, l1, m1, q1, q3⟩
        · refine im_g 1 (y := (72, _, _, _)) rfl trivial ?_
          refine im_call [0,1,2,3,4] rfl rfl (c_step (q := q) (A := A) (u := u) (c := c) (k := kk) (by omega) hT hA hS.2.1) rfl rfl rfl (by decide) rfl (by decide) hT (fun v1 w1 hq => ?_)
          obtain ⟨rfl, rfl⟩ := hq
          refine ⟨_, _, RW 0 (rd_next A q) A u c kk, rfl, rfl, rfl, ?_⟩
          refine im_g 2 (y := (77, _, _, _)) rfl trivial ?_
          refine im_call [0,1,2,3,4] rfl rfl (h0 d od (rd_next A q) A N (u) (c) kk (o) (i + 1) (l) (.inl f) hA (hS1) (by omega) (by omega) (by omega) (by omega) q1) rfl rfl rfl (by decide) rfl (by decide) hT (fun v1 w1 hq => ?_)
          obtain ⟨rfl, q2, u2, c2, rfl, hP2⟩ := hq
          refine ⟨_, _, RW 0 q2 A u2 c2 kk, rfl, rfl, rfl, ?_⟩
          refine im_g 3 (y := (83, _, _, _)) rfl trivial ?_
          refine im_call [0,1,2,3,4] rfl rfl (c_emit (q := q2) (A := A) (u := u2) (c := c2) (k := kk) (by omega) hT hP2.2.1 (wt := 5) (x := 0) (by decide) (by decide)) rfl rfl rfl (by decide) rfl (by decide) hT (fun v1 w1 hq => ?_)
          obtain ⟨rfl, rfl⟩ := hq
          refine ⟨_, _, RW 0 q2 A (rd_emu u2) (rd_emc u2 c2 5 0) kk, rfl, rfl, rfl, ?_⟩
          refine im_g 3 (y := (7, _, _, _)) rfl trivial ?_
          refine im_g 2 (y := (11, _, _, _)) rfl trivial ?_
          refine im_b rfl rfl ⟨(by omega), (by omega), trivial⟩ (fun br1 => ?_) (fun br1 => ?_)
          · refine im_r rfl rfl trivial rfl ?_
            rw [hres]
            exact ⟨rfl, _, _, _, rfl, RdP_TS (RdP_f hP2 hP.2.2.1) (TS_em hP2.2.1 (by decide) (by decide)) rfl⟩
          · refine im_g 2 (y := (17, _, _, _)) rfl trivial ?_
            refine im_call [0,1,2,3,4] rfl rfl (c_isSignD (q := q2) (A := A) (u := (rd_emu u2)) (c := (rd_emc u2 c2 5 0)) (k := kk) (by omega) hT (RdP_D hP2).2.2.1) rfl rfl rfl (by decide) rfl (by decide) hT (fun v1 w1 hq => ?_)
            obtain ⟨rfl, rfl⟩ := hq
            refine ⟨_, _, RW 0 q2 A (rd_emu u2) (rd_emc u2 c2 5 0) kk, rfl, rfl, rfl, ?_⟩
            refine im_bF rfl rfl ⟨(by omega), trivial⟩ (fun z => z rfl) ?_
            refine im_g 2 (y := (26, _, _, _)) rfl trivial ?_
            refine im_call [0,1,2,3,4] rfl rfl (c_isSignD (q := q2) (A := A) (u := (rd_emu u2)) (c := (rd_emc u2 c2 5 0)) (k := kk) (by omega) hT (RdP_D hP2).2.2.1) rfl rfl rfl (by decide) rfl (by decide) hT (fun v1 w1 hq => ?_)
            obtain ⟨rfl, rfl⟩ := hq
            refine ⟨_, _, RW 0 q2 A (rd_emu u2) (rd_emc u2 c2 5 0) kk, rfl, rfl, rfl, ?_⟩
            refine im_bF rfl rfl ⟨(by omega), trivial⟩ (fun z => z rfl) ?_
            refine im_g 2 (y := (35, _, _, _)) rfl trivial ?_
            refine im_call [0,1,2,3,4] rfl rfl (c_isSignD (q := q2) (A := A) (u := (rd_emu u2)) (c := (rd_emc u2 c2 5 0)) (k := kk) (by omega) hT (RdP_D hP2).2.2.1) rfl rfl rfl (by decide) rfl (by decide) hT (fun v1 w1 hq => ?_)
            obtain ⟨rfl, rfl⟩ := hq
            refine ⟨_, _, RW 0 q2 A (rd_emu u2) (rd_emc u2 c2 5 0) kk, rfl, rfl, rfl, ?_⟩
            refine im_bT rfl rfl ⟨(by omega), trivial⟩ rfl ?_
            refine im_r rfl rfl trivial rfl ?_
            rw [hres]
            exact ⟨rfl, _, _, _, rfl, RdP_TS (RdP_f hP2 hP.2.2.1) (TS_em hP2.2.1 (by decide) (by decide)) rfl⟩
        · have hj1 := dn_nt hN (by decide) hlt q1
          refine im_g 1 (y := (72, _, _, _)) rfl trivial ?_
          refine im_call [0,1,2,3,4] rfl rfl (c_step (q := q) (A := A) (u := u) (c := c) (k := kk) (by omega) hT hA hS.2.1) rfl rfl rfl (by decide) rfl (by decide) hT (fun v1 w1 hq => ?_)
          obtain ⟨rfl, rfl⟩ := hq
          refine ⟨_, _, RW 0 (rd_next A q) A u c kk, rfl, rfl, rfl, ?_⟩
          refine im_g 2 (y := (77, _, _, _)) rfl trivial ?_
          refine im_call [0,1,2,3,4] rfl rfl (h0 d od (rd_next A q) A N (u) (c) kk (o) (i + 1) (l) (.inr (j1, l1, m1)) hA (hS1) (by omega) (by omega) (by omega) (by omega) q1) rfl rfl rfl (by decide) rfl (by decide) hT (fun v1 w1 hq => ?_)
          obtain ⟨rfl, q2, u2, c2, rfl, hP2⟩ := hq
          refine ⟨_, _, RW 0 q2 A u2 c2 kk, rfl, rfl, rfl, ?_⟩
          refine im_g 3 (y := (83, _, _, _)) rfl trivial ?_
          refine im_call [0,1,2,3,4] rfl rfl (c_emit (q := q2) (A := A) (u := u2) (c := c2) (k := kk) (by omega) hT hP2.2.1 (wt := 5) (x := 0) (by decide) (by decide)) rfl rfl rfl (by decide) rfl (by decide) hT (fun v1 w1 hq => ?_)
          obtain ⟨rfl, rfl⟩ := hq
          refine ⟨_, _, RW 0 q2 A (rd_emu u2) (rd_emc u2 c2 5 0) kk, rfl, rfl, rfl, ?_⟩
          refine im_g 3 (y := (7, _, _, _)) rfl trivial ?_
          exact h2 d od _ A N i0 u0 _ c0 _ kk o j1 l1 (ci + 1) _ res _ hA (RdP_op (a_ := tk_nt A N) hP hP2 hroom hj1.2 (by omega) (by decide) hu0) hu0 ho (by omega) hj1.2 hroom (by omega) q3
    · have c20 : ¬ (tk_C A N i = 100 + 42) := by
        intro hh
        rw [if_pos hh] at br2
        exact br2 (by decide)
      clear br2
      refine im_g 2 (y := (26, _, _, _)) rfl trivial ?_
      refine im_call [0,1,2,3,4] rfl rfl (w_sign (q := q) (u := u) (c := c) (k := kk) (by omega) hT hA hS (b := 47) (by decide)) rfl rfl rfl (by decide) rfl (by decide) hT (fun v1 w1 hq => ?_)
      obtain ⟨rfl, rfl⟩ := hq
      refine ⟨_, _, RW 0 q A u c kk, rfl, rfl, rfl, ?_⟩
      refine im_b rfl rfl ⟨(by omega), trivial⟩ (fun br5 => ?_) (fun br5 => ?_)
      · have c29 : tk_C A N i = 100 + 47 := by
          by_cases hh : tk_C A N i = 100 + 47
          · exact hh
          · rw [if_neg hh] at br5; exact absurd rfl br5
        clear br5
        refine im_g 2 (y := (44, _, _, _)) rfl trivial ?_
        refine im_call [0,1,2,3,4] rfl rfl (w_sign (q := q) (u := u) (c := c) (k := kk) (by omega) hT hA hS (b := 42) (by decide)) rfl rfl rfl (by decide) rfl (by decide) hT (fun v1 w1 hq => ?_)
        obtain ⟨rfl, rfl⟩ := hq
        refine ⟨_, _, RW 0 q A u c kk, rfl, rfl, rfl, ?_⟩
        refine im_b rfl rfl ⟨(by omega), trivial⟩ (fun br6 => ?_) (fun br6 => ?_)
        · have c47 : ¬ (tk_C A N i = 100 + 42) := by
            intro hh
            rw [if_pos hh] at br6
            exact absurd br6 (by decide)
          clear br6
          refine im_g 2 (y := (57, _, _, _)) rfl trivial ?_
          refine im_call [0,1,2,3,4] rfl rfl (w_sign (q := q) (u := u) (c := c) (k := kk) (by omega) hT hA hS (b := 47) (by decide)) rfl rfl rfl (by decide) rfl (by decide) hT (fun v1 w1 hq => ?_)
          obtain ⟨rfl, rfl⟩ := hq
          refine ⟨_, _, RW 0 q A u c kk, rfl, rfl, rfl, ?_⟩
          refine im_b rfl rfl ⟨(by omega), trivial⟩ (fun br7 => ?_) (fun br7 => ?_)
          · have c60 : ¬ (tk_C A N i = 100 + 47) := by
              intro hh
              rw [if_pos hh] at br7
              exact absurd br7 (by decide)
            clear br7
            refine im_g 2 (y := (71, _, _, _)) rfl trivial ?_
            rw [dn_2, if_pos (by omega), show d_tw (tk_C A N i) = 7 by unfold d_tw; rw [if_neg (by omega), if_neg (by omega)]] at hdn
            have hlt := tk_lt (A := A) hN (i := i) (by omega)
            have hS1 := RdS_next hS
            rcases d_bind_s hdn with ⟨f, q1, hres⟩ | ⟨j1, l1, m1, q1, q3⟩
            · refine im_g 1 (y := (72, _, _, _)) rfl trivial ?_
              refine im_call [0,1,2,3,4] rfl rfl (c_step (q := q) (A := A) (u := u) (c := c) (k := kk) (by omega) hT hA hS.2.1) rfl rfl rfl (by decide) rfl (by decide) hT (fun v1 w1 hq => ?_)
              obtain ⟨rfl, rfl⟩ := hq
              refine ⟨_, _, RW 0 (rd_next A q) A u c kk, rfl, rfl, rfl, ?_⟩
              refine im_g 2 (y := (77, _, _, _)) rfl trivial ?_
              refine im_call [0,1,2,3,4] rfl rfl (h0 d od (rd_next A q) A N (u) (c) kk (o) (i + 1) (l) (.inl f) hA (hS1) (by omega) (by omega) (by omega) (by omega) q1) rfl rfl rfl (by decide) rfl (by decide) hT (fun v1 w1 hq => ?_)
              obtain ⟨rfl, q2, u2, c2, rfl, hP2⟩ := hq
              refine ⟨_, _, RW 0 q2 A u2 c2 kk, rfl, rfl, rfl, ?_⟩
              refine im_g 3 (y := (83, _, _, _)) rfl trivial ?_
              refine im_call [0,1,2,3,4] rfl rfl (c_emit (q := q2) (A := A) (u := u2) (c := c2) (k := kk) (by omega) hT hP2.2.1 (wt := 7) (x := 0) (by decide) (by decide)) rfl rfl rfl (by decide) rfl (by decide) hT (fun v1 w1 hq => ?_)
              obtain ⟨rfl, rfl⟩ := hq
              refine ⟨_, _, RW 0 q2 A (rd_emu u2) (rd_emc u2 c2 7 0) kk, rfl, rfl, rfl, ?_⟩
              refine im_g 3 (y := (7, _, _, _)) rfl trivial ?_
              refine im_g 2 (y := (11, _, _, _)) rfl trivial ?_
              refine im_b rfl rfl ⟨(by omega), (by omega), trivial⟩ (fun br1 => ?_) (fun br1 => ?_)
              · refine im_r rfl rfl trivial rfl ?_
                rw [hres]
                exact ⟨rfl, _, _, _, rfl, RdP_TS (RdP_f hP2 hP.2.2.1) (TS_em hP2.2.1 (by decide) (by decide)) rfl⟩
              · refine im_g 2 (y := (17, _, _, _)) rfl trivial ?_
                refine im_call [0,1,2,3,4] rfl rfl (c_isSignD (q := q2) (A := A) (u := (rd_emu u2)) (c := (rd_emc u2 c2 7 0)) (k := kk) (by omega) hT (RdP_D hP2).2.2.1) rfl rfl rfl (by decide) rfl (by decide) hT (fun v1 w1 hq => ?_)
                obtain ⟨rfl, rfl⟩ := hq
                refine ⟨_, _, RW 0 q2 A (rd_emu u2) (rd_emc u2 c2 7 0) kk, rfl, rfl, rfl, ?_⟩
                refine im_bF rfl rfl ⟨(by omega), trivial⟩ (fun z => z rfl) ?_
                refine im_g 2 (y := (26, _, _, _)) rfl trivial ?_
                refine im_call [0,1,2,3,4] rfl rfl (c_isSignD (q := q2) (A := A) (u := (rd_emu u2)) (c := (rd_emc u2 c2 7 0)) (k := kk) (by omega) hT (RdP_D hP2).2.2.1) rfl rfl rfl (by decide) rfl (by decide) hT (fun v1 w1 hq => ?_)
                obtain ⟨rfl, rfl⟩ := hq
                refine ⟨_, _, RW 0 q2 A (rd_emu u2) (rd_emc u2 c2 7 0) kk, rfl, rfl, rfl, ?_⟩
                refine im_bF rfl rfl ⟨(by omega), trivial⟩ (fun z => z rfl) ?_
                refine im_g 2 (y := (35, _, _, _)) rfl trivial ?_
                refine im_call [0,1,2,3,4] rfl rfl (c_isSignD (q := q2) (A := A) (u := (rd_emu u2)) (c := (rd_emc u2 c2 7 0)) (k := kk) (by omega) hT (RdP_D hP2).2.2.1) rfl rfl rfl (by decide) rfl (by decide) hT (fun v1 w1 hq => ?_)
                obtain ⟨rfl, rfl⟩ := hq
                refine ⟨_, _, RW 0 q2 A (rd_emu u2) (rd_emc u2 c2 7 0) kk, rfl, rfl, rfl, ?_⟩
                refine im_bT rfl rfl ⟨(by omega), trivial⟩ rfl ?_
                refine im_r rfl rfl trivial rfl ?_
                rw [hres]
                exact ⟨rfl, _, _, _, rfl, RdP_TS (RdP_f hP2 hP.2.2.1) (TS_em hP2.2.1 (by decide) (by decide)) rfl⟩
            · have hj1 := dn_nt hN (by decide) hlt q1
              refine im_g 1 (y := (72, _, _, _)) rfl trivial ?_
              refine im_call [0,1,2,3,4] rfl rfl (c_step (q := q) (A := A) (u := u) (c := c) (k := kk) (by omega) hT hA hS.2.1) rfl rfl rfl (by decide) rfl (by decide) hT (fun v1 w1 hq => ?_)
              obtain ⟨rfl, rfl⟩ := hq
              refine ⟨_, _, RW 0 (rd_next A q) A u c kk, rfl, rfl, rfl, ?_⟩
              refine im_g 2 (y := (77, _, _, _)) rfl trivial ?_
              refine im_call [0,1,2,3,4] rfl rfl (h0 d od (rd_next A q) A N (u) (c) kk (o) (i + 1) (l) (.inr (j1, l1, m1)) hA (hS1) (by omega) (by omega) (by omega) (by omega) q1) rfl rfl rfl (by decide) rfl (by decide) hT (fun v1 w1 hq => ?_)
              obtain ⟨rfl, q2, u2, c2, rfl, hP2⟩ := hq
              refine ⟨_, _, RW 0 q2 A u2 c2 kk, rfl, rfl, rfl, ?_⟩
              refine im_g 3 (y := (83, _, _, _)) rfl trivial ?_
              refine im_call [0,1,2,3,4] rfl rfl (c_emit (q := q2) (A := A) (u := u2) (c := c2) (k := kk) (by omega) hT hP2.2.1 (wt := 7) (x := 0) (by decide) (by decide)) rfl rfl rfl (by decide) rfl (by decide) hT (fun v1 w1 hq => ?_)
              obtain ⟨rfl, rfl⟩ := hq
              refine ⟨_, _, RW 0 q2 A (rd_emu u2) (rd_emc u2 c2 7 0) kk, rfl, rfl, rfl, ?_⟩
              refine im_g 3 (y := (7, _, _, _)) rfl trivial ?_
              exact h2 d od _ A N i0 u0 _ c0 _ kk o j1 l1 (ci + 1) _ res _ hA (RdP_op (a_ := tk_nt A N) hP hP2 hroom hj1.2 (by omega) (by decide) hu0) hu0 ho (by omega) hj1.2 hroom (by omega) q3
          · have c60 : tk_C A N i = 100 + 47 := by
              by_cases hh : tk_C A N i = 100 + 47
              · exact hh
              · rw [if_neg hh] at br7; exact absurd rfl br7
            clear br7
            refine im_g 3 (y := (71, _, _, _)) rfl trivial ?_
            rw [dn_2, if_pos (by omega), show d_tw (tk_C A N i) = 6 by unfold d_tw; rw [if_neg (by omega), if_pos (by omega)]] at hdn
            have hlt := tk_lt (A := A) hN (i := i) (by omega)
            have hS1 := RdS_next hS
            rcases d_bind_s hdn with ⟨f, q1, hres⟩ | ⟨j1, l1, m1, q1, q3⟩
            · refine im_g 1 (y := (72, _, _, _)) rfl trivial ?_
              refine im_call [0,1,2,3,4] rfl rfl (c_step (q := q) (A := A) (u := u) (c := c) (k := kk) (by omega) hT hA hS.2.1) rfl rfl rfl (by decide) rfl (by decide) hT (fun v1 w1 hq => ?_)
              obtain ⟨rfl, rfl⟩ := hq
              refine ⟨_, _, RW 0 (rd_next A q) A u c kk, rfl, rfl, rfl, ?_⟩
              refine im_g 2 (y := (77, _, _, _)) rfl trivial ?_
              refine im_call [0,1,2,3,4] rfl rfl (h0 d od (rd_next A q) A N (u) (c) kk (o) (i + 1) (l) (.inl f) hA (hS1) (by omega) (by omega) (by omega) (by omega) q1) rfl rfl rfl (by decide) rfl (by decide) hT (fun v1 w1 hq => ?_)
              obtain ⟨rfl, q2, u2, c2, rfl, hP2⟩ := hq
              refine ⟨_, _, RW 0 q2 A u2 c2 kk, rfl, rfl, rfl, ?_⟩
              refine im_g 3 (y := (83, _, _, _)) rfl trivial ?_
              refine im_call [0,1,2,3,4] rfl rfl (c_emit (q := q2) (A := A) (u := u2) (c := c2) (k := kk) (by omega) hT hP2.2.1 (wt := 6) (x := 0) (by decide) (by decide)) rfl rfl rfl (by decide) rfl (by decide) hT (fun v1 w1 hq => ?_)
              obtain ⟨rfl, rfl⟩ := hq
              refine ⟨_, _, RW 0 q2 A (rd_emu u2) (rd_emc u2 c2 6 0) kk, rfl, rfl, rfl, ?_⟩
              refine im_g 3 (y := (7, _, _, _)) rfl trivial ?_
              refine im_g 2 (y := (11, _, _, _)) rfl trivial ?_
              refine im_b rfl rfl ⟨(by omega), (by omega), trivial⟩ (fun br1 => ?_) (fun br1 => ?_)
              · refine im_r rfl rfl trivial rfl ?_
                rw [hres]
                exact ⟨rfl, _, _, _, rfl, RdP_TS (RdP_f hP2 hP.2.2.1) (TS_em hP2.2.1 (by decide) (by decide)) rfl⟩
              · refine im_g 2 (y := (17, _, _, _)) rfl trivial ?_
                refine im_call [0,1,2,3,4] rfl rfl (c_isSignD (q := q2) (A := A) (u := (rd_emu u2)) (c := (rd_emc u2 c2 6 0)) (k := kk) (by omega) hT (RdP_D hP2).2.2.1) rfl rfl rfl (by decide) rfl (by decide) hT (fun v1 w1 hq => ?_)
                obtain ⟨rfl, rfl⟩ := hq
                refine ⟨_, _, RW 0 q2 A (rd_emu u2) (rd_emc u2 c2 6 0) kk, rfl, rfl, rfl, ?_⟩
                refine im_bF rfl rfl ⟨(by omega), trivial⟩ (fun z => z rfl) ?_
                refine im_g 2 (y := (26, _, _, _)) rfl trivial ?_
                refine im_call [0,1,2,3,4] rfl rfl (c_isSignD (q := q2) (A := A) (u := (rd_emu u2)) (c := (rd_emc u2 c2 6 0)) (k := kk) (by omega) hT (RdP_D hP2).2.2.1) rfl rfl rfl (by decide) rfl (by decide) hT (fun v1 w1 hq => ?_)
                obtain ⟨rfl, rfl⟩ := hq
                refine ⟨_, _, RW 0 q2 A (rd_emu u2) (rd_emc u2 c2 6 0) kk, rfl, rfl, rfl, ?_⟩
                refine im_bF rfl rfl ⟨(by omega), trivial⟩ (fun z => z rfl) ?_
                refine im_g 2 (y := (35, _, _, _)) rfl trivial ?_
                refine im_call [0,1,2,3,4] rfl rfl (c_isSignD (q := q2) (A := A) (u := (rd_emu u2)) (c := (rd_emc u2 c2 6 0)) (k := kk) (by omega) hT (RdP_D hP2).2.2.1) rfl rfl rfl (by decide) rfl (by decide) hT (fun v1 w1 hq => ?_)
                obtain ⟨rfl, rfl⟩ := hq
                refine ⟨_, _, RW 0 q2 A (rd_emu u2) (rd_emc u2 c2 6 0) kk, rfl, rfl, rfl, ?_⟩
                refine im_bT rfl rfl ⟨(by omega), trivial⟩ rfl ?_
                refine im_r rfl rfl trivial rfl ?_
                rw [hres]
                exact ⟨rfl, _, _, _, rfl, RdP_TS (RdP_f hP2 hP.2.2.1) (TS_em hP2.2.1 (by decide) (by decide)) rfl⟩
            · have hj1 := dn_nt hN (by decide) hlt q1
              refine im_g 1 (y := (72, _, _, _)) rfl trivial ?_
              refine im_call [0,1,2,3,4] rfl rfl (c_step (q := q) (A := A) (u := u) (c := c) (k := kk) (by omega) hT hA hS.2.1) rfl rfl rfl (by decide) rfl (by decide) hT (fun v1 w1 hq => ?_)
              obtain ⟨rfl, rfl⟩ := hq
              refine ⟨_, _, RW 0 (rd_next A q) A u c kk, rfl, rfl, rfl, ?_⟩
              refine im_g 2 (y := (77, _, _, _)) rfl trivial ?_
              refine im_call [0,1,2,3,4] rfl rfl (h0 d od (rd_next A q) A N (u) (c) kk (o) (i + 1) (l) (.inr (j1, l1, m1)) hA (hS1) (by omega) (by omega) (by omega) (by omega) q1) rfl rfl rfl (by decide) rfl (by decide) hT (fun v1 w1 hq => ?_)
              obtain ⟨rfl, q2, u2, c2, rfl, hP2⟩ := hq
              refine ⟨_, _, RW 0 q2 A u2 c2 kk, rfl, rfl, rfl, ?_⟩
              refine im_g 3 (y := (83, _, _, _)) rfl trivial ?_
              refine im_call [0,1,2,3,4] rfl rfl (c_emit (q := q2) (A := A) (u := u2) (c := c2) (k := kk) (by omega) hT hP2.2.1 (wt := 6) (x := 0) (by decide) (by decide)) rfl rfl rfl (by decide) rfl (by decide) hT (fun v1 w1 hq => ?_)
              obtain ⟨rfl, rfl⟩ := hq
              refine ⟨_, _, RW 0 q2 A (rd_emu u2) (rd_emc u2 c2 6 0) kk, rfl, rfl, rfl, ?_⟩
              refine im_g 3 (y := (7, _, _, _)) rfl trivial ?_
              exact h2 d od _ A N i0 u0 _ c0 _ kk o j1 l1 (ci + 1) _ res _ hA (RdP_op (a_ := tk_nt A N) hP hP2 hroom hj1.2 (by omega) (by decide) hu0) hu0 ho (by omega) hj1.2 hroom (by omega) q3
        · have c47 : tk_C A N i = 100 + 42 := by
            by_cases hh : tk_C A N i = 100 + 42
            · exact hh
            · rw [if_neg hh] at br6; exact absurd rfl br6
          clear br6
          refine im_g 3 (y := (71, _, _, _)) rfl trivial ?_
          rw [dn_2, if_pos (by omega), show d_tw (tk_C A N i) = 5 by unfold d_tw; rw [if_pos (by omega)]] at hdn
          have hlt := tk_lt (A := A) hN (i := i) (by omega)
          have hS1 := RdS_next hS
          rcases d_bind_s hdn with ⟨f, q1, hres⟩ | ⟨j1, l1, m1, q1, q3⟩
          · refine im_g 1 (y := (72, _, _, _)) rfl trivial ?_
            refine im_call [0,1,2,3,4] rfl rfl (c_step (q := q) (A := A) (u := u) (c := c) (k := kk) (by omega) hT hA hS.2.1) rfl rfl rfl (by decide) rfl (by decide) hT (fun v1 w1 hq => ?_)
            obtain ⟨rfl, rfl⟩ := hq
            refine ⟨_, _, RW 0 (rd_next A q) A u c kk, rfl, rfl, rfl, ?_⟩
            refine im_g 2 (y := (77, _, _, _)) rfl trivial ?_
            refine im_call [0,1,2,3,4] rfl rfl (h0 d od (rd_next A q) A N (u) (c) kk (o) (i + 1) (l) (.inl f) hA (hS1) (by omega) (by omega) (by omega) (by omega) q1) rfl rfl rfl (by decide) rfl (by decide) hT (fun v1 w1 hq => ?_)
            obtain ⟨rfl, q2, u2, c2, rfl, hP2⟩ := hq
            refine ⟨_, _, RW 0 q2 A u2 c2 kk, rfl, rfl, rfl, ?_⟩
            refine im_g 3 (y := (83, _, _, _)) rfl trivial ?_
            refine im_call [0,1,2,3,4] rfl rfl (c_emit (q := q2) (A := A) (u := u2) (c := c2) (k := kk) (by omega) hT hP2.2.1 (wt := 5) (x := 0) (by decide) (by decide)) rfl rfl rfl (by decide) rfl (by decide) hT (fun v1 w1 hq => ?_)
            obtain ⟨rfl, rfl⟩ := hq
            refine ⟨_, _, RW 0 q2 A (rd_emu u2) (rd_emc u2 c2 5 0) kk, rfl, rfl, rfl, ?_⟩
            refine im_g 3 (y := (7, _, _, _)) rfl trivial ?_
            refine im_g 2 (y := (11, _, _, _)) rfl trivial ?_
            refine im_b rfl rfl ⟨(by omega), (by omega), trivial⟩ (fun br1 => ?_) (fun br1 => ?_)
            · refine im_r rfl rfl trivial rfl ?_
              rw [hres]
              exact ⟨rfl, _, _, _, rfl, RdP_TS (RdP_f hP2 hP.2.2.1) (TS_em hP2.2.1 (by decide) (by decide)) rfl⟩
            · refine im_g 2 (y := (17, _, _, _)) rfl trivial ?_
              refine im_call [0,1,2,3,4] rfl rfl (c_isSignD (q := q2) (A := A) (u := (rd_emu u2)) (c := (rd_emc u2 c2 5 0)) (k := kk) (by omega) hT (RdP_D hP2).2.2.1) rfl rfl rfl (by decide) rfl (by decide) hT (fun v1 w1 hq => ?_)
              obtain ⟨rfl, rfl⟩ := hq
              refine ⟨_, _, RW 0 q2 A (rd_emu u2) (rd_emc u2 c2 5 0) kk, rfl, rfl, rfl, ?_⟩
              refine im_bF rfl rfl ⟨(by omega), trivial⟩ (fun z => z rfl) ?_
              refine im_g 2 (y := (26, _, _, _)) rfl trivial ?_
              refine im_call [0,1,2,3,4] rfl rfl (c_isSignD (q := q2) (A := A) (u := (rd_emu u2)) (c := (rd_emc u2 c2 5 0)) (k := kk) (by omega) hT (RdP_D hP2).2.2.1) rfl rfl rfl (by decide) rfl (by decide) hT (fun v1 w1 hq => ?_)
              obtain ⟨rfl, rfl⟩ := hq
              refine ⟨_, _, RW 0 q2 A (rd_emu u2) (rd_emc u2 c2 5 0) kk, rfl, rfl, rfl, ?_⟩
              refine im_bF rfl rfl ⟨(by omega), trivial⟩ (fun z => z rfl) ?_
              refine im_g 2 (y := (35, _, _, _)) rfl trivial ?_
              refine im_call [0,1,2,3,4] rfl rfl (c_isSignD (q := q2) (A := A) (u := (rd_emu u2)) (c := (rd_emc u2 c2 5 0)) (k := kk) (by omega) hT (RdP_D hP2).2.2.1) rfl rfl rfl (by decide) rfl (by decide) hT (fun v1 w1 hq => ?_)
              obtain ⟨rfl, rfl⟩ := hq
              refine ⟨_, _, RW 0 q2 A (rd_emu u2) (rd_emc u2 c2 5 0) kk, rfl, rfl, rfl, ?_⟩
              refine im_bT rfl rfl ⟨(by omega), trivial⟩ rfl ?_
              refine im_r rfl rfl trivial rfl ?_
              rw [hres]
              exact ⟨rfl, _, _, _, rfl, RdP_TS (RdP_f hP2 hP.2.2.1) (TS_em hP2.2.1 (by decide) (by decide)) rfl⟩
          · have hj1 := dn_nt hN (by decide) hlt q1
            refine im_g 1 (y := (72, _, _, _)) rfl trivial ?_
            refine im_call [0,1,2,3,4] rfl rfl (c_step (q := q) (A := A) (u := u) (c := c) (k := kk) (by omega) hT hA hS.2.1) rfl rfl rfl (by decide) rfl (by decide) hT (fun v1 w1 hq => ?_)
            obtain ⟨rfl, rfl⟩ := hq
            refine ⟨_, _, RW 0 (rd_next A q) A u c kk, rfl, rfl, rfl, ?_⟩
            refine im_g 2 (y := (77, _, _, _)) rfl trivial ?_
            refine im_call [0,1,2,3,4] rfl rfl (h0 d od (rd_next A q) A N (u) (c) kk (o) (i + 1) (l) (.inr (j1, l1, m1)) hA (hS1) (by omega) (by omega) (by omega) (by omega) q1) rfl rfl rfl (by decide) rfl (by decide) hT (fun v1 w1 hq => ?_)
            obtain ⟨rfl, q2, u2, c2, rfl, hP2⟩ := hq
            refine ⟨_, _, RW 0 q2 A u2 c2 kk, rfl, rfl, rfl, ?_⟩
            refine im_g 3 (y := (83, _, _, _)) rfl trivial ?_
            refine im_call [0,1,2,3,4] rfl rfl (c_emit (q := q2) (A := A) (u := u2) (c := c2) (k := kk) (by omega) hT hP2.2.1 (wt := 5) (x := 0) (by decide) (by decide)) rfl rfl rfl (by decide) rfl (by decide) hT (fun v1 w1 hq => ?_)
            obtain ⟨rfl, rfl⟩ := hq
            refine ⟨_, _, RW 0 q2 A (rd_emu u2) (rd_emc u2 c2 5 0) kk, rfl, rfl, rfl, ?_⟩
            refine im_g 3 (y := (7, _, _, _)) rfl trivial ?_
            exact h2 d od _ A N i0 u0 _ c0 _ kk o j1 l1 (ci + 1) _ res _ hA (RdP_op (a_ := tk_nt A N) hP hP2 hroom hj1.2 (by omega) (by decide) hu0) hu0 ho (by omega) hj1.2 hroom (by omega) q3
      · have c29 : ¬ (tk_C A N i = 100 + 47) := by
          intro hh
          rw [if_pos hh] at br5
          exact br5 (by decide)
        clear br5
        refine im_g 2 (y := (35, _, _, _)) rfl trivial ?_
        refine im_call [0,1,2,3,4] rfl rfl (w_sign (q := q) (u := u) (c := c) (k := kk) (by omega) hT hA hS (b := 37) (by decide)) rfl rfl rfl (by decide) rfl (by decide) hT (fun v1 w1 hq => ?_)
        obtain ⟨rfl, rfl⟩ := hq
        refine ⟨_, _, RW 0 q A u c kk, rfl, rfl, rfl, ?_⟩
        refine im_b rfl rfl ⟨(by omega), trivial⟩ (fun br8 => ?_) (fun br8 => ?_)
        · have c38 : ¬ (tk_C A N i = 100 + 37) := by
            intro hh
            rw [if_pos hh] at br8
            exact absurd br8 (by decide)
          clear br8
          refine im_r rfl rfl trivial rfl ?_
          rw [dn_2, if_neg (by omega)] at hdn
          have hres : res = .inr (i, l, a) := by cases hdn; rfl
          rw [hres]
          exact ⟨rfl, _, _, _, rfl, hP⟩
        · have c38 : tk_C A N i = 100 + 37 := by
            by_cases hh : tk_C A N i = 100 + 37
            · exact hh
            · rw [if_neg hh] at br8; exact absurd rfl br8
          clear br8
          refine im_g 2 (y := (44, _, _, _)) rfl trivial ?_
          refine im_call [0,1,2,3,4] rfl rfl (w_sign (q := q) (u := u) (c := c) (k := kk) (by omega) hT hA hS (b := 42) (by decide)) rfl rfl rfl (by decide) rfl (by decide) hT (fun v1 w1 hq => ?_)
          obtain ⟨rfl, rfl⟩ := hq
          refine ⟨_, _, RW 0 q A u c kk, rfl, rfl, rfl, ?_⟩
          refine im_b rfl rfl ⟨(by omega), trivial⟩ (fun br9 => ?_) (fun br9 => ?_)
          · have c47 : ¬ (tk_C A N i = 100 + 42) := by
              intro hh
              rw [if_pos hh] at br9
              exact absurd br9 (by decide)
            clear br9
            refine im_g 2 (y := (57, _, _, _)) rfl trivial ?_
            refine im_call [0,1,2,3,4] rfl rfl (w_sign (q := q) (u := u) (c := c) (k := kk) (by omega) hT hA hS (b := 47) (by decide)) rfl rfl rfl (by decide) rfl (by decide) hT (fun v1 w1 hq => ?_)
            obtain ⟨rfl, rfl⟩ := hq
            refine ⟨_, _, RW 0 q A u c kk, rfl, rfl, rfl, ?_⟩
            refine im_b rfl rfl ⟨(by omega), trivial⟩ (fun br10 => ?_) (fun br10 => ?_)
            · have c60 : ¬ (tk_C A N i = 100 + 47) := by
                intro hh
                rw [if_pos hh] at br10
                exact absurd br10 (by decide)
              clear br10
              refine im_g 2 (y := (71, _, _, _)) rfl trivial ?_
              rw [dn_2, if_pos (by omega), show d_tw (tk_C A N i) = 7 by unfold d_tw; rw [if_neg (by omega), if_neg (by omega)]] at hdn
              have hlt := tk_lt (A := A) hN (i := i) (by omega)
              have hS1 := RdS_next hS
              rcases d_bind_s hdn with ⟨f, q1, hres⟩ | ⟨j1, l1, m1, q1, q3⟩
              · refine im_g 1 (y := (72, _, _, _)) rfl trivial ?_
                refine im_call [0,1,2,3,4] rfl rfl (c_step (q := q) (A := A) (u := u) (c := c) (k := kk) (by omega) hT hA hS.2.1) rfl rfl rfl (by decide) rfl (by decide) hT (fun v1 w1 hq => ?_)
                obtain ⟨rfl, rfl⟩ := hq
                refine ⟨_, _, RW 0 (rd_next A q) A u c kk, rfl, rfl, rfl, ?_⟩
                refine im_g 2 (y := (77, _, _, _)) rfl trivial ?_
                refine im_call [0,1,2,3,4] rfl rfl (h0 d od (rd_next A q) A N (u) (c) kk (o) (i + 1) (l) (.inl f) hA (hS1) (by omega) (by omega) (by omega) (by omega) q1) rfl rfl rfl (by decide) rfl (by decide) hT (fun v1 w1 hq => ?_)
                obtain ⟨rfl, q2, u2, c2, rfl, hP2⟩ := hq
                refine ⟨_, _, RW 0 q2 A u2 c2 kk, rfl, rfl, rfl, ?_⟩
                refine im_g 3 (y := (83, _, _, _)) rfl trivial ?_
                refine im_call [0,1,2,3,4] rfl rfl (c_emit (q := q2) (A := A) (u := u2) (c := c2) (k := kk) (by omega) hT hP2.2.1 (wt := 7) (x := 0) (by decide) (by decide)) rfl rfl rfl (by decide) rfl (by decide) hT (fun v1 w1 hq => ?_)
                obtain ⟨rfl, rfl⟩ := hq
                refine ⟨_, _, RW 0 q2 A (rd_emu u2) (rd_emc u2 c2 7 0) kk, rfl, rfl, rfl, ?_⟩
                refine im_g 3 (y := (7, _, _, _)) rfl trivial ?_
                refine im_g 2 (y := (11, _, _, _)) rfl trivial ?_
                refine im_b rfl rfl ⟨(by omega), (by omega), trivial⟩ (fun br1 => ?_) (fun br1 => ?_)
                · refine im_r rfl rfl trivial rfl ?_
                  rw [hres]
                  exact ⟨rfl, _, _, _, rfl, RdP_TS (RdP_f hP2 hP.2.2.1) (TS_em hP2.2.1 (by decide) (by decide)) rfl⟩
                · refine im_g 2 (y := (17, _, _, _)) rfl trivial ?_
                  refine im_call [0,1,2,3,4] rfl rfl (c_isSignD (q := q2) (A := A) (u := (rd_emu u2)) (c := (rd_emc u2 c2 7 0)) (k := kk) (by omega) hT (RdP_D hP2).2.2.1) rfl rfl rfl (by decide) rfl (by decide) hT (fun v1 w1 hq => ?_)
                  obtain ⟨rfl, rfl⟩ := hq
                  refine ⟨_, _, RW 0 q2 A (rd_emu u2) (rd_emc u2 c2 7 0) kk, rfl, rfl, rfl, ?_⟩
                  refine im_bF rfl rfl ⟨(by omega), trivial⟩ (fun z => z rfl) ?_
                  refine im_g 2 (y := (26, _, _, _)) rfl trivial ?_
                  refine im_call [0,1,2,3,4] rfl rfl (c_isSignD (q := q2) (A := A) (u := (rd_emu u2)) (c := (rd_emc u2 c2 7 0)) (k := kk) (by omega) hT (RdP_D hP2).2.2.1) rfl rfl rfl (by decide) rfl (by decide) hT (fun v1 w1 hq => ?_)
                  obtain ⟨rfl, rfl⟩ := hq
                  refine ⟨_, _, RW 0 q2 A (rd_emu u2) (rd_emc u2 c2 7 0) kk, rfl, rfl, rfl, ?_⟩
                  refine im_bF rfl rfl ⟨(by omega), trivial⟩ (fun z => z rfl) ?_
                  refine im_g 2 (y := (35, _, _, _)) rfl trivial ?_
                  refine im_call [0,1,2,3,4] rfl rfl (c_isSignD (q := q2) (A := A) (u := (rd_emu u2)) (c := (rd_emc u2 c2 7 0)) (k := kk) (by omega) hT (RdP_D hP2).2.2.1) rfl rfl rfl (by decide) rfl (by decide) hT (fun v1 w1 hq => ?_)
                  obtain ⟨rfl, rfl⟩ := hq
                  refine ⟨_, _, RW 0 q2 A (rd_emu u2) (rd_emc u2 c2 7 0) kk, rfl, rfl, rfl, ?_⟩
                  refine im_bT rfl rfl ⟨(by omega), trivial⟩ rfl ?_
                  refine im_r rfl rfl trivial rfl ?_
                  rw [hres]
                  exact ⟨rfl, _, _, _, rfl, RdP_TS (RdP_f hP2 hP.2.2.1) (TS_em hP2.2.1 (by decide) (by decide)) rfl⟩
              · have hj1 := dn_nt hN (by decide) hlt q1
                refine im_g 1 (y := (72, _, _, _)) rfl trivial ?_
                refine im_call [0,1,2,3,4] rfl rfl (c_step (q := q) (A := A) (u := u) (c := c) (k := kk) (by omega) hT hA hS.2.1) rfl rfl rfl (by decide) rfl (by decide) hT (fun v1 w1 hq => ?_)
                obtain ⟨rfl, rfl⟩ := hq
                refine ⟨_, _, RW 0 (rd_next A q) A u c kk, rfl, rfl, rfl, ?_⟩
                refine im_g 2 (y := (77, _, _, _)) rfl trivial ?_
                refine im_call [0,1,2,3,4] rfl rfl (h0 d od (rd_next A q) A N (u) (c) kk (o) (i + 1) (l) (.inr (j1, l1, m1)) hA (hS1) (by omega) (by omega) (by omega) (by omega) q1) rfl rfl rfl (by decide) rfl (by decide) hT (fun v1 w1 hq => ?_)
                obtain ⟨rfl, q2, u2, c2, rfl, hP2⟩ := hq
                refine ⟨_, _, RW 0 q2 A u2 c2 kk, rfl, rfl, rfl, ?_⟩
                refine im_g 3 (y := (83, _, _, _)) rfl trivial ?_
                refine im_call [0,1,2,3,4] rfl rfl (c_emit (q := q2) (A := A) (u := u2) (c := c2) (k := kk) (by omega) hT hP2.2.1 (wt := 7) (x := 0) (by decide) (by decide)) rfl rfl rfl (by decide) rfl (by decide) hT (fun v1 w1 hq => ?_)
                obtain ⟨rfl, rfl⟩ := hq
                refine ⟨_, _, RW 0 q2 A (rd_emu u2) (rd_emc u2 c2 7 0) kk, rfl, rfl, rfl, ?_⟩
                refine im_g 3 (y := (7, _, _, _)) rfl trivial ?_
                exact h2 d od _ A N i0 u0 _ c0 _ kk o j1 l1 (ci + 1) _ res _ hA (RdP_op (a_ := tk_nt A N) hP hP2 hroom hj1.2 (by omega) (by decide) hu0) hu0 ho (by omega) hj1.2 hroom (by omega) q3
            · have c60 : tk_C A N i = 100 + 47 := by
                by_cases hh : tk_C A N i = 100 + 47
                · exact hh
                · rw [if_neg hh] at br10; exact absurd rfl br10
              clear br10
              refine im_g 3 (y := (71, _, _, _)) rfl trivial ?_
              rw [dn_2, if_pos (by omega), show d_tw (tk_C A N i) = 6 by unfold d_tw; rw [if_neg (by omega), if_pos (by omega)]] at hdn
              have hlt := tk_lt (A := A) hN (i := i) (by omega)
              have hS1 := RdS_next hS
              rcases d_bind_s hdn with ⟨f, q1, hres⟩ | ⟨j1, l1, m1, q1, q3⟩
              · refine im_g 1 (y := (72, _, _, _)) rfl trivial ?_
                refine im_call [0,1,2,3,4] rfl rfl (c_step (q := q) (A := A) (u := u) (c := c) (k := kk) (by omega) hT hA hS.2.1) rfl rfl rfl (by decide) rfl (by decide) hT (fun v1 w1 hq => ?_)
                obtain ⟨rfl, rfl⟩ := hq
                refine ⟨_, _, RW 0 (rd_next A q) A u c kk, rfl, rfl, rfl, ?_⟩
                refine im_g 2 (y := (77, _, _, _)) rfl trivial ?_
                refine im_call [0,1,2,3,4] rfl rfl (h0 d od (rd_next A q) A N (u) (c) kk (o) (i + 1) (l) (.inl f) hA (hS1) (by omega) (by omega) (by omega) (by omega) q1) rfl rfl rfl (by decide) rfl (by decide) hT (fun v1 w1 hq => ?_)
                obtain ⟨rfl, q2, u2, c2, rfl, hP2⟩ := hq
                refine ⟨_, _, RW 0 q2 A u2 c2 kk, rfl, rfl, rfl, ?_⟩
                refine im_g 3 (y := (83, _, _, _)) rfl trivial ?_
                refine im_call [0,1,2,3,4] rfl rfl (c_emit (q := q2) (A := A) (u := u2) (c := c2) (k := kk) (by omega) hT hP2.2.1 (wt := 6) (x := 0) (by decide) (by decide)) rfl rfl rfl (by decide) rfl (by decide) hT (fun v1 w1 hq => ?_)
                obtain ⟨rfl, rfl⟩ := hq
                refine ⟨_, _, RW 0 q2 A (rd_emu u2) (rd_emc u2 c2 6 0) kk, rfl, rfl, rfl, ?_⟩
                refine im_g 3 (y := (7, _, _, _)) rfl trivial ?_
                refine im_g 2 (y := (11, _, _, _)) rfl trivial ?_
                refine im_b rfl rfl ⟨(by omega), (by omega), trivial⟩ (fun br1 => ?_) (fun br1 => ?_)
                · refine im_r rfl rfl trivial rfl ?_
                  rw [hres]
                  exact ⟨rfl, _, _, _, rfl, RdP_TS (RdP_f hP2 hP.2.2.1) (TS_em hP2.2.1 (by decide) (by decide)) rfl⟩
                · refine im_g 2 (y := (17, _, _, _)) rfl trivial ?_
                  refine im_call [0,1,2,3,4] rfl rfl (c_isSignD (q := q2) (A := A) (u := (rd_emu u2)) (c := (rd_emc u2 c2 6 0)) (k := kk) (by omega) hT (RdP_D hP2).2.2.1) rfl rfl rfl (by decide) rfl (by decide) hT (fun v1 w1 hq => ?_)
                  obtain ⟨rfl, rfl⟩ := hq
                  refine ⟨_, _, RW 0 q2 A (rd_emu u2) (rd_emc u2 c2 6 0) kk, rfl, rfl, rfl, ?_⟩
                  refine im_bF rfl rfl ⟨(by omega), trivial⟩ (fun z => z rfl) ?_
                  refine im_g 2 (y := (26, _, _, _)) rfl trivial ?_
                  refine im_call [0,1,2,3,4] rfl rfl (c_isSignD (q := q2) (A := A) (u := (rd_emu u2)) (c := (rd_emc u2 c2 6 0)) (k := kk) (by omega) hT (RdP_D hP2).2.2.1) rfl rfl rfl (by decide) rfl (by decide) hT (fun v1 w1 hq => ?_)
                  obtain ⟨rfl, rfl⟩ := hq
                  refine ⟨_, _, RW 0 q2 A (rd_emu u2) (rd_emc u2 c2 6 0) kk, rfl, rfl, rfl, ?_⟩
                  refine im_bF rfl rfl ⟨(by omega), trivial⟩ (fun z => z rfl) ?_
                  refine im_g 2 (y := (35, _, _, _)) rfl trivial ?_
                  refine im_call [0,1,2,3,4] rfl rfl (c_isSignD (q := q2) (A := A) (u := (rd_emu u2)) (c := (rd_emc u2 c2 6 0)) (k := kk) (by omega) hT (RdP_D hP2).2.2.1) rfl rfl rfl (by decide) rfl (by decide) hT (fun v1 w1 hq => ?_)
                  obtain ⟨rfl, rfl⟩ := hq
                  refine ⟨_, _, RW 0 q2 A (rd_emu u2) (rd_emc u2 c2 6 0) kk, rfl, rfl, rfl, ?_⟩
                  refine im_bT rfl rfl ⟨(by omega), trivial⟩ rfl ?_
                  refine im_r rfl rfl trivial rfl ?_
                  rw [hres]
                  exact ⟨rfl, _, _, _, rfl, RdP_TS (RdP_f hP2 hP.2.2.1) (TS_em hP2.2.1 (by decide) (by decide)) rfl⟩
              · have hj1 := dn_nt hN (by decide) hlt q1
                refine im_g 1 (y := (72, _, _, _)) rfl trivial ?_
                refine im_call [0,1,2,3,4] rfl rfl (c_step (q := q) (A := A) (u := u) (c := c) (k := kk) (by omega) hT hA hS.2.1) rfl rfl rfl (by decide) rfl (by decide) hT (fun v1 w1 hq => ?_)
                obtain ⟨rfl, rfl⟩ := hq
                refine ⟨_, _, RW 0 (rd_next A q) A u c kk, rfl, rfl, rfl, ?_⟩
                refine im_g 2 (y := (77, _, _, _)) rfl trivial ?_
                refine im_call [0,1,2,3,4] rfl rfl (h0 d od (rd_next A q) A N (u) (c) kk (o) (i + 1) (l) (.inr (j1, l1, m1)) hA (hS1) (by omega) (by omega) (by omega) (by omega) q1) rfl rfl rfl (by decide) rfl (by decide) hT (fun v1 w1 hq => ?_)
                obtain ⟨rfl, q2, u2, c2, rfl, hP2⟩ := hq
                refine ⟨_, _, RW 0 q2 A u2 c2 kk, rfl, rfl, rfl, ?_⟩
                refine im_g 3 (y := (83, _, _, _)) rfl trivial ?_
                refine im_call [0,1,2,3,4] rfl rfl (c_emit (q := q2) (A := A) (u := u2) (c := c2) (k := kk) (by omega) hT hP2.2.1 (wt := 6) (x := 0) (by decide) (by decide)) rfl rfl rfl (by decide) rfl (by decide) hT (fun v1 w1 hq => ?_)
                obtain ⟨rfl, rfl⟩ := hq
                refine ⟨_, _, RW 0 q2 A (rd_emu u2) (rd_emc u2 c2 6 0) kk, rfl, rfl, rfl, ?_⟩
                refine im_g 3 (y := (7, _, _, _)) rfl trivial ?_
                exact h2 d od _ A N i0 u0 _ c0 _ kk o j1 l1 (ci + 1) _ res _ hA (RdP_op (a_ := tk_nt A N) hP hP2 hroom hj1.2 (by omega) (by decide) hu0) hu0 ho (by omega) hj1.2 hroom (by omega) q3
          · have c47 : tk_C A N i = 100 + 42 := by
              by_cases hh : tk_C A N i = 100 + 42
              · exact hh
              · rw [if_neg hh] at br9; exact absurd rfl br9
            clear br9
            refine im_g 3 (y := (71, _, _, _)) rfl trivial ?_
            rw [dn_2, if_pos (by omega), show d_tw (tk_C A N i) = 5 by unfold d_tw; rw [if_pos (by omega)]] at hdn
            have hlt := tk_lt (A := A) hN (i := i) (by omega)
            have hS1 := RdS_next hS
            rcases d_bind_s hdn with ⟨f, q1, hres⟩ | ⟨j1, l1, m1, q1, q3⟩
            · refine im_g 1 (y := (72, _, _, _)) rfl trivial ?_
              refine im_call [0,1,2,3,4] rfl rfl (c_step (q := q) (A := A) (u := u) (c := c) (k := kk) (by omega) hT hA hS.2.1) rfl rfl rfl (by decide) rfl (by decide) hT (fun v1 w1 hq => ?_)
              obtain ⟨rfl, rfl⟩ := hq
              refine ⟨_, _, RW 0 (rd_next A q) A u c kk, rfl, rfl, rfl, ?_⟩
              refine im_g 2 (y := (77, _, _, _)) rfl trivial ?_
              refine im_call [0,1,2,3,4] rfl rfl (h0 d od (rd_next A q) A N (u) (c) kk (o) (i + 1) (l) (.inl f) hA (hS1) (by omega) (by omega) (by omega) (by omega) q1) rfl rfl rfl (by decide) rfl (by decide) hT (fun v1 w1 hq => ?_)
              obtain ⟨rfl, q2, u2, c2, rfl, hP2⟩ := hq
              refine ⟨_, _, RW 0 q2 A u2 c2 kk, rfl, rfl, rfl, ?_⟩
              refine im_g 3 (y := (83, _, _, _)) rfl trivial ?_
              refine im_call [0,1,2,3,4] rfl rfl (c_emit (q := q2) (A := A) (u := u2) (c := c2) (k := kk) (by omega) hT hP2.2.1 (wt := 5) (x := 0) (by decide) (by decide)) rfl rfl rfl (by decide) rfl (by decide) hT (fun v1 w1 hq => ?_)
              obtain ⟨rfl, rfl⟩ := hq
              refine ⟨_, _, RW 0 q2 A (rd_emu u2) (rd_emc u2 c2 5 0) kk, rfl, rfl, rfl, ?_⟩
              refine im_g 3 (y := (7, _, _, _)) rfl trivial ?_
              refine im_g 2 (y := (11, _, _, _)) rfl trivial ?_
              refine im_b rfl rfl ⟨(by omega), (by omega), trivial⟩ (fun br1 => ?_) (fun br1 => ?_)
              · refine im_r rfl rfl trivial rfl ?_
                rw [hres]
                exact ⟨rfl, _, _, _, rfl, RdP_TS (RdP_f hP2 hP.2.2.1) (TS_em hP2.2.1 (by decide) (by decide)) rfl⟩
              · refine im_g 2 (y := (17, _, _, _)) rfl trivial ?_
                refine im_call [0,1,2,3,4] rfl rfl (c_isSignD (q := q2) (A := A) (u := (rd_emu u2)) (c := (rd_emc u2 c2 5 0)) (k := kk) (by omega) hT (RdP_D hP2).2.2.1) rfl rfl rfl (by decide) rfl (by decide) hT (fun v1 w1 hq => ?_)
                obtain ⟨rfl, rfl⟩ := hq
                refine ⟨_, _, RW 0 q2 A (rd_emu u2) (rd_emc u2 c2 5 0) kk, rfl, rfl, rfl, ?_⟩
                refine im_bF rfl rfl ⟨(by omega), trivial⟩ (fun z => z rfl) ?_
                refine im_g 2 (y := (26, _, _, _)) rfl trivial ?_
                refine im_call [0,1,2,3,4] rfl rfl (c_isSignD (q := q2) (A := A) (u := (rd_emu u2)) (c := (rd_emc u2 c2 5 0)) (k := kk) (by omega) hT (RdP_D hP2).2.2.1) rfl rfl rfl (by decide) rfl (by decide) hT (fun v1 w1 hq => ?_)
                obtain ⟨rfl, rfl⟩ := hq
                refine ⟨_, _, RW 0 q2 A (rd_emu u2) (rd_emc u2 c2 5 0) kk, rfl, rfl, rfl, ?_⟩
                refine im_bF rfl rfl ⟨(by omega), trivial⟩ (fun z => z rfl) ?_
                refine im_g 2 (y := (35, _, _, _)) rfl trivial ?_
                refine im_call [0,1,2,3,4] rfl rfl (c_isSignD (q := q2) (A := A) (u := (rd_emu u2)) (c := (rd_emc u2 c2 5 0)) (k := kk) (by omega) hT (RdP_D hP2).2.2.1) rfl rfl rfl (by decide) rfl (by decide) hT (fun v1 w1 hq => ?_)
                obtain ⟨rfl, rfl⟩ := hq
                refine ⟨_, _, RW 0 q2 A (rd_emu u2) (rd_emc u2 c2 5 0) kk, rfl, rfl, rfl, ?_⟩
                refine im_bT rfl rfl ⟨(by omega), trivial⟩ rfl ?_
                refine im_r rfl rfl trivial rfl ?_
                rw [hres]
                exact ⟨rfl, _, _, _, rfl, RdP_TS (RdP_f hP2 hP.2.2.1) (TS_em hP2.2.1 (by decide) (by decide)) rfl⟩
            · have hj1 := dn_nt hN (by decide) hlt q1
              refine im_g 1 (y := (72, _, _, _)) rfl trivial ?_
              refine im_call [0,1,2,3,4] rfl rfl (c_step (q := q) (A := A) (u := u) (c := c) (k := kk) (by omega) hT hA hS.2.1) rfl rfl rfl (by decide) rfl (by decide) hT (fun v1 w1 hq => ?_)
              obtain ⟨rfl, rfl⟩ := hq
              refine ⟨_, _, RW 0 (rd_next A q) A u c kk, rfl, rfl, rfl, ?_⟩
              refine im_g 2 (y := (77, _, _, _)) rfl trivial ?_
              refine im_call [0,1,2,3,4] rfl rfl (h0 d od (rd_next A q) A N (u) (c) kk (o) (i + 1) (l) (.inr (j1, l1, m1)) hA (hS1) (by omega) (by omega) (by omega) (by omega) q1) rfl rfl rfl (by decide) rfl (by decide) hT (fun v1 w1 hq => ?_)
              obtain ⟨rfl, q2, u2, c2, rfl, hP2⟩ := hq
              refine ⟨_, _, RW 0 q2 A u2 c2 kk, rfl, rfl, rfl, ?_⟩
              refine im_g 3 (y := (83, _, _, _)) rfl trivial ?_
              refine im_call [0,1,2,3,4] rfl rfl (c_emit (q := q2) (A := A) (u := u2) (c := c2) (k := kk) (by omega) hT hP2.2.1 (wt := 5) (x := 0) (by decide) (by decide)) rfl rfl rfl (by decide) rfl (by decide) hT (fun v1 w1 hq => ?_)
              obtain ⟨rfl, rfl⟩ := hq
              refine ⟨_, _, RW 0 q2 A (rd_emu u2) (rd_emc u2 c2 5 0) kk, rfl, rfl, rfl, ?_⟩
              refine im_g 3 (y := (7, _, _, _)) rfl trivial ?_
              exact h2 d od _ A N i0 u0 _ c0 _ kk o j1 l1 (ci + 1) _ res _ hA (RdP_op (a_ := tk_nt A N) hP hP2 hroom hj1.2 (by omega) (by decide) hu0) hu0 ho (by omega) hj1.2 hroom (by omega) q3
set_option maxHeartbeats 8000000 in
theorem rd_3 (hT : T.length < 1000) {n : Nat} (h1 : RdM ro T n 1 53 5 2) (h4 : RdR ro T n 4 ab_k_X5_readSum 5 3) : RdM ro T (n + 1) 3 52 6 3 := by
  intro d od q A N u c kk o i l res hA h ho hd hnt hroom hdn
  obtain ⟨d, rfl⟩ : ∃ e, d = e + 1 := ⟨d - 1, by omega⟩
  have hN := RdS_N h
  have hTS := h.2.2
  have hu1 := hTS.1
  rw [dn_3] at hdn
  have htn := (tk_nt_b (A := A) hN).1
  have h0i : 0 ≤ i := h.2.1.2.1
  refine im_ct_of (own := 5) (ret := none) (code := ab_k_X5_readSum) (nL := 4) (L0 := [some (mr 0), some (.inl o), none, none]) (n := 5) rfl rfl rfl rfl rfl rfl rfl rfl rfl ?_
  rcases d_bind_s hdn with ⟨f, q1, hres⟩ | ⟨j1, l1, m1, q1, q3⟩
  · refine im_g 2 (y := (2, _, _, _)) rfl trivial ?_
    refine im_call [0,1,2,3,4] rfl rfl (h1 d od (q) A N (u) (c) kk (o) (i) (l) (.inl f) hA (h) (by omega) (by omega) (by omega) (by omega) q1) rfl rfl rfl (by decide) rfl (by decide) hT (fun v1 w1 hq => ?_)
    obtain ⟨rfl, q2, u2, c2, rfl, hP2⟩ := hq
    refine ⟨_, _, RW 0 q2 A u2 c2 kk, rfl, rfl, rfl, ?_⟩
    refine im_g 2 (y := (7, _, _, _)) rfl trivial ?_
    refine im_g 2 (y := (11, _, _, _)) rfl trivial ?_
    refine im_b rfl rfl ⟨(by omega), (by omega), trivial⟩ (fun br1 => ?_) (fun br1 => ?_)
    · refine im_r rfl rfl trivial rfl ?_
      rw [hres]
      exact ⟨rfl, _, _, _, rfl, RdP_f hP2 rfl⟩
    · refine im_g 2 (y := (17, _, _, _)) rfl trivial ?_
      refine im_call [0,1,2,3,4] rfl rfl (c_isSignD (q := q2) (A := A) (u := u2) (c := c2) (k := kk) (by omega) hT (RdP_D hP2).2.2.1) rfl rfl rfl (by decide) rfl (by decide) hT (fun v1 w1 hq => ?_)
      obtain ⟨rfl, rfl⟩ := hq
      refine ⟨_, _, RW 0 q2 A u2 c2 kk, rfl, rfl, rfl, ?_⟩
      refine im_bF rfl rfl ⟨(by omega), trivial⟩ (fun z => z rfl) ?_
      refine im_g 2 (y := (26, _, _, _)) rfl trivial ?_
      refine im_call [0,1,2,3,4] rfl rfl (c_isSignD (q := q2) (A := A) (u := u2) (c := c2) (k := kk) (by omega) hT (RdP_D hP2).2.2.1) rfl rfl rfl (by decide) rfl (by decide) hT (fun v1 w1 hq => ?_)
      obtain ⟨rfl, rfl⟩ := hq
      refine ⟨_, _, RW 0 q2 A u2 c2 kk, rfl, rfl, rfl, ?_⟩
      refine im_bT rfl rfl ⟨(by omega), trivial⟩ rfl ?_
      refine im_r rfl rfl trivial rfl ?_
      rw [hres]
      exact ⟨rfl, _, _, _, rfl, RdP_f hP2 rfl⟩
  · refine im_g 2 (y := (2, _, _, _)) rfl trivial ?_
    refine im_call [0,1,2,3,4] rfl rfl (h1 d od (q) A N (u) (c) kk (o) (i) (l) (.inr (j1, l1, m1)) hA (h) (by omega) (by omega) (by omega) (by omega) q1) rfl rfl rfl (by decide) rfl (by decide) hT (fun v1 w1 hq => ?_)
    obtain ⟨rfl, q2, u2, c2, rfl, hP2⟩ := hq
    refine ⟨_, _, RW 0 q2 A u2 c2 kk, rfl, rfl, rfl, ?_⟩
    refine im_g 2 (y := (7, _, _, _)) rfl trivial ?_
    have hj1 := dn_nt hN (by decide) hnt q1
    exact h4 d od q2 A N i u u2 c c2 kk o j1 l1 0 m1 res none hA (RdP_more hP2 (by omega)) (by omega) ho (by omega) hj1.2 hroom (by omega) q3
set_option maxHeartbeats 8000000 in
theorem rd_1 (hT : T.length < 1000) {n : Nat} (h0 : RdM ro T n 0 54 4 1) (h2 : RdR ro T n 2 ab_k_X5_readTerm 4 2) : RdM ro T (n + 1) 1 53 5 2 := by
  intro d od q A N u c kk o i l res hA h ho hd hnt hroom hdn
  obtain ⟨d, rfl⟩ : ∃ e, d = e + 1 := ⟨d - 1, by omega⟩
  have hN := RdS_N h
  have hTS := h.2.2
  have hu1 := hTS.1
  rw [dn_1] at hdn
  have htn := (tk_nt_b (A := A) hN).1
  have h0i : 0 ≤ i := h.2.1.2.1
  refine im_ct_of (own := 5) (ret := none) (code := ab_k_X5_readTerm) (nL := 4) (L0 := [some (mr 0), some (.inl o), none, none]) (n := 5) rfl rfl rfl rfl rfl rfl rfl rfl rfl ?_
  rcases d_bind_s hdn with ⟨f, q1, hres⟩ | ⟨j1, l1, m1, q1, q3⟩
  · refine im_g 2 (y := (2, _, _, _)) rfl trivial ?_
    refine im_call [0,1,2,3,4] rfl rfl (h0 d od (q) A N (u) (c) kk (o) (i) (l) (.inl f) hA (h) (by omega) (by omega) (by omega) (by omega) q1) rfl rfl rfl (by decide) rfl (by decide) hT (fun v1 w1 hq => ?_)
    obtain ⟨rfl, q2, u2, c2, rfl, hP2⟩ := hq
    refine ⟨_, _, RW 0 q2 A u2 c2 kk, rfl, rfl, rfl, ?_⟩
    refine im_g 2 (y := (7, _, _, _)) rfl trivial ?_
    refine im_g 2 (y := (11, _, _, _)) rfl trivial ?_
    refine im_b rfl rfl ⟨(by omega), (by omega), trivial⟩ (fun br1 => ?_) (fun br1 => ?_)
    · refine im_r rfl rfl trivial rfl ?_
      rw [hres]
      exact ⟨rfl, _, _, _, rfl, RdP_f hP2 rfl⟩
    · refine im_g 2 (y := (17, _, _, _)) rfl trivial ?_
      refine im_call [0,1,2,3,4] rfl rfl (c_isSignD (q := q2) (A := A) (u := u2) (c := c2) (k := kk) (by omega) hT (RdP_D hP2).2.2.1) rfl rfl rfl (by decide) rfl (by decide) hT (fun v1 w1 hq => ?_)
      obtain ⟨rfl, rfl⟩ := hq
      refine ⟨_, _, RW 0 q2 A u2 c2 kk, rfl, rfl, rfl, ?_⟩
      refine im_bF rfl rfl ⟨(by omega), trivial⟩ (fun z => z rfl) ?_
      refine im_g 2 (y := (26, _, _, _)) rfl trivial ?_
      refine im_call [0,1,2,3,4] rfl rfl (c_isSignD (q := q2) (A := A) (u := u2) (c := c2) (k := kk) (by omega) hT (RdP_D hP2).2.2.1) rfl rfl rfl (by decide) rfl (by decide) hT (fun v1 w1 hq => ?_)
      obtain ⟨rfl, rfl⟩ := hq
      refine ⟨_, _, RW 0 q2 A u2 c2 kk, rfl, rfl, rfl, ?_⟩
      refine im_bF rfl rfl ⟨(by omega), trivial⟩ (fun z => z rfl) ?_
      refine im_g 2 (y := (35, _, _, _)) rfl trivial ?_
      refine im_call [0,1,2,3,4] rfl rfl (c_isSignD (q := q2) (A := A) (u := u2) (c := c2) (k := kk) (by omega) hT (RdP_D hP2).2.2.1) rfl rfl rfl (by decide) rfl (by decide) hT (fun v1 w1 hq => ?_)
      obtain ⟨rfl, rfl⟩ := hq
      refine ⟨_, _, RW 0 q2 A u2 c2 kk, rfl, rfl, rfl, ?_⟩
      refine im_bT rfl rfl ⟨(by omega), trivial⟩ rfl ?_
      refine im_r rfl rfl trivial rfl ?_
      rw [hres]
      exact ⟨rfl, _, _, _, rfl, RdP_f hP2 rfl⟩
  · refine im_g 2 (y := (2, _, _, _)) rfl trivial ?_
    refine im_call [0,1,2,3,4] rfl rfl (h0 d od (q) A N (u) (c) kk (o) (i) (l) (.inr (j1, l1, m1)) hA (h) (by omega) (by omega) (by omega) (by omega) q1) rfl rfl rfl (by decide) rfl (by decide) hT (fun v1 w1 hq => ?_)
    obtain ⟨rfl, q2, u2, c2, rfl, hP2⟩ := hq
    refine ⟨_, _, RW 0 q2 A u2 c2 kk, rfl, rfl, rfl, ?_⟩
    refine im_g 2 (y := (7, _, _, _)) rfl trivial ?_
    have hj1 := dn_nt hN (by decide) hnt q1
    exact h2 d od q2 A N i u u2 c c2 kk o j1 l1 0 m1 res none hA (RdP_more hP2 (by omega)) (by omega) ho (by omega) hj1.2 hroom (by omega) q3
set_option maxHeartbeats 8000000 in
theorem rd_R8 (hT : T.length < 1000) {n : Nat} (h5 : RdM ro T n 5 51 7 4) (h4 : RdR ro T n 8 ab_k_X5_readBoth 7 4) : RdR ro T (n + 1) 8 ab_k_X5_readBoth 7 4 := by
  intro d od q A N i0 u0 u c0 c kk o i l ci a res x3 hA hP hu0 ho hd hnt hroom hci hdn
  have hS := RdP_S hP
  have hN := RdS_N hS
  have hTS := hS.2.2
  have hu1 := hTS.1
  have hub := hP.2.2.2.2.1
  have htn := (tk_nt_b (A := A) hN).1
  have hCe := @tk_C_end A N hN
  refine im_g 2 (y := (11, _, _, _)) rfl trivial ?_
  refine im_b rfl rfl ⟨(by omega), (by omega), trivial⟩ (fun br1 => ?_) (fun br1 => ?_)
  · refine im_r rfl rfl trivial rfl ?_
    have hC0 := hCe i (by omega)
    rw [dn_8, if_neg (by omega)] at hdn
    have hres : res = .inr (i, l, a) := by cases hdn; rfl
    rw [hres]
    exact ⟨rfl, _, _, _, rfl, hP⟩
  · refine im_g 2 (y := (17, _, _, _)) rfl trivial ?_
    refine im_call [0,1,2,3,4] rfl rfl (w_is_and (q := q) (u := u) (c := c) (k := kk) (by omega) hT hA hS) rfl rfl rfl (by decide) rfl (by decide) hT (fun v1 w1 hq => ?_)
    obtain ⟨rfl, rfl⟩ := hq
    refine ⟨_, _, RW 0 q A u c kk, rfl, rfl, rfl, ?_⟩
    refine im_b rfl rfl ⟨(by omega), trivial⟩ (fun br2 => ?_) (fun br2 => ?_)
    · have c20 : ¬ (tk_C A N i = 7) := by
        intro hh
        rw [if_pos hh] at br2
        exact absurd br2 (by decide)
      clear br2
      refine im_r rfl rfl trivial rfl ?_
      rw [dn_8, if_neg (by omega)] at hdn
      have hres : res = .inr (i, l, a) := by cases hdn; rfl
      rw [hres]
      exact ⟨rfl, _, _, _, rfl, hP⟩
    · have c20 : tk_C A N i = 7 := by
        by_cases hh : tk_C A N i = 7
        · exact hh
        · rw [if_neg hh] at br2; exact absurd rfl br2
      clear br2
      rw [dn_8, if_pos c20] at hdn
      have hlt := tk_lt (A := A) hN (i := i) (by omega)
      have hte := TS_em hTS (w := 13) (x := 0) (by decide) (by decide)
      have hS1 : RdS od A N (i + 1) l (rd_emu u) (rd_emc u c 13 0) (rd_next A q) := ⟨(RdS_next hS).1, (RdS_next hS).2.1, hte⟩
      have hue : (rd_emu u).1 ≤ u.1 + 1 := by unfold rd_emu; dsimp only; split <;> omega
      rcases d_bind_s hdn with ⟨f, q1, hres⟩ | ⟨j1, l1, m1, q1, q3⟩
      · refine im_g 3 (y := (27, _, _, _)) rfl trivial ?_
        refine im_call [0,1,2,3,4] rfl rfl (c_emit (q := q) (A := A) (u := u) (c := c) (k := kk) (by omega) hT hTS (wt := 13) (x := 0) (by decide) (by decide)) rfl rfl rfl (by decide) rfl (by decide) hT (fun v1 w1 hq => ?_)
        obtain ⟨rfl, rfl⟩ := hq
        refine ⟨_, _, RW 0 q A (rd_emu u) (rd_emc u c 13 0) kk, rfl, rfl, rfl, ?_⟩
        refine im_g 2 (y := (32, _, _, _)) rfl trivial ?_
        refine im_call [0,1,2,3,4] rfl rfl (c_step (q := q) (A := A) (u := rd_emu u) (c := rd_emc u c 13 0) (k := kk) (by omega) hT hA hS.2.1) rfl rfl rfl (by decide) rfl (by decide) hT (fun v1 w1 hq => ?_)
        obtain ⟨rfl, rfl⟩ := hq
        refine ⟨_, _, RW 0 (rd_next A q) A (rd_emu u) (rd_emc u c 13 0) kk, rfl, rfl, rfl, ?_⟩
        refine im_g 2 (y := (37, _, _, _)) rfl trivial ?_
        refine im_call [0,1,2,3,4] rfl rfl (h5 d od (rd_next A q) A N (rd_emu u) (rd_emc u c 13 0) kk (o) (i + 1) (l) (.inl f) hA (hS1) (by omega) (by omega) (by omega) (by omega) q1) rfl rfl rfl (by decide) rfl (by decide) hT (fun v1 w1 hq => ?_)
        obtain ⟨rfl, q2, u2, c2, rfl, hP2⟩ := hq
        refine ⟨_, _, RW 0 q2 A u2 c2 kk, rfl, rfl, rfl, ?_⟩
        refine im_g 2 (y := (42, _, _, _)) rfl trivial ?_
        refine im_call [0,1,2,3,4] rfl rfl (c_aim (q := q2) (A := A) (u := u2) (c := c2) (k := kk) (by omega) hT hP2.2.1 (s := u.1) (by omega)) rfl rfl rfl (by decide) rfl (by decide) hT (fun v1 w1 hq => ?_)
        obtain ⟨rfl, rfl⟩ := hq
        refine ⟨_, _, RW 0 q2 A u2 (rd_aim u2 c2 u.1) kk, rfl, rfl, rfl, ?_⟩
        refine im_g 2 (y := (7, _, _, _)) rfl trivial ?_
        refine im_g 2 (y := (11, _, _, _)) rfl trivial ?_
        refine im_b rfl rfl ⟨(by omega), (by omega), trivial⟩ (fun br1 => ?_) (fun br1 => ?_)
        · refine im_r rfl rfl trivial rfl ?_
          rw [hres]
          exact ⟨rfl, _, _, _, rfl, RdP_TS (RdP_f hP2 hP.2.2.1) (TS_aim hP2.2.1 _) rfl⟩
        · refine im_g 2 (y := (17, _, _, _)) rfl trivial ?_
          refine im_call [0,1,2,3,4] rfl rfl (c_isD (q := q2) (A := A) (u := u2) (c := (rd_aim u2 c2 u.1)) (k := kk) (o := 2000021) (by omega) hT (RdP_D hP2).2.2.1) rfl rfl rfl (by decide) rfl (by decide) hT (fun v1 w1 hq => ?_)
          obtain ⟨rfl, rfl⟩ := hq
          refine ⟨_, _, RW 0 q2 A u2 (rd_aim u2 c2 u.1) kk, rfl, rfl, rfl, ?_⟩
          refine im_bT rfl rfl ⟨(by omega), trivial⟩ rfl ?_
          refine im_r rfl rfl trivial rfl ?_
          rw [hres]
          exact ⟨rfl, _, _, _, rfl, RdP_TS (RdP_f hP2 hP.2.2.1) (TS_aim hP2.2.1 _) rfl⟩
      · have hj1 := dn_nt hN (by decide) hlt q1
        refine im_g 3 (y := (27, _, _, _)) rfl trivial ?_
        refine im_call [0,1,2,3,4] rfl rfl (c_emit (q := q) (A := A) (u := u) (c := c) (k := kk) (by omega) hT hTS (wt := 13) (x := 0) (by decide) (by decide)) rfl rfl rfl (by decide) rfl (by decide) hT (fun v1 w1 hq => ?_)
        obtain ⟨rfl, rfl⟩ := hq
        refine ⟨_, _, RW 0 q A (rd_emu u) (rd_emc u c 13 0) kk, rfl, rfl, rfl, ?_⟩
        refine im_g 2 (y := (32, _, _, _)) rfl trivial ?_
        refine im_call [0,1,2,3,4] rfl rfl (c_step (q := q) (A := A) (u := rd_emu u) (c := rd_emc u c 13 0) (k := kk) (by omega) hT hA hS.2.1) rfl rfl rfl (by decide) rfl (by decide) hT (fun v1 w1 hq => ?_)
        obtain ⟨rfl, rfl⟩ := hq
        refine ⟨_, _, RW 0 (rd_next A q) A (rd_emu u) (rd_emc u c 13 0) kk, rfl, rfl, rfl, ?_⟩
        refine im_g 2 (y := (37, _, _, _)) rfl trivial ?_
        refine im_call [0,1,2,3,4] rfl rfl (h5 d od (rd_next A q) A N (rd_emu u) (rd_emc u c 13 0) kk (o) (i + 1) (l) (.inr (j1, l1, m1)) hA (hS1) (by omega) (by omega) (by omega) (by omega) q1) rfl rfl rfl (by decide) rfl (by decide) hT (fun v1 w1 hq => ?_)
        obtain ⟨rfl, q2, u2, c2, rfl, hP2⟩ := hq
        refine ⟨_, _, RW 0 q2 A u2 c2 kk, rfl, rfl, rfl, ?_⟩
        refine im_g 2 (y := (42, _, _, _)) rfl trivial ?_
        refine im_call [0,1,2,3,4] rfl rfl (c_aim (q := q2) (A := A) (u := u2) (c := c2) (k := kk) (by omega) hT hP2.2.1 (s := u.1) (by omega)) rfl rfl rfl (by decide) rfl (by decide) hT (fun v1 w1 hq => ?_)
        obtain ⟨rfl, rfl⟩ := hq
        refine ⟨_, _, RW 0 q2 A u2 (rd_aim u2 c2 u.1) kk, rfl, rfl, rfl, ?_⟩
        refine im_g 2 (y := (7, _, _, _)) rfl trivial ?_
        exact h4 d od _ A N i0 u0 _ c0 _ kk o j1 l1 (ci + 1) _ res _ hA (RdP_log (w := 13) (a_ := tk_nt A N) hP hP2 hroom hj1.2 (by omega) (Or.inr ⟨rfl, rfl⟩) hu0) hu0 ho (by omega) hj1.2 hroom (by omega) q3
set_option maxHeartbeats 8000000 in
theorem rd_R10 (hT : T.length < 1000) {n : Nat} (h7 : RdM ro T n 7 50 8 4) (h4 : RdR ro T n 10 ab_k_X5_readTest 8 4) : RdR ro T (n + 1) 10 ab_k_X5_readTest 8 4 := by
  intro d od q A N i0 u0 u c0 c kk o i l ci a res x3 hA hP hu0 ho hd hnt hroom hci hdn
  have hS := RdP_S hP
  have hN := RdS_N hS
  have hTS := hS.2.2
  have hu1 := hTS.1
  have hub := hP.2.2.2.2.1
  have htn := (tk_nt_b (A := A) hN).1
  have hCe := @tk_C_end A N hN
  refine im_g 2 (y := (11, _, _, _)) rfl trivial ?_
  refine im_b rfl rfl ⟨(by omega), (by omega), trivial⟩ (fun br1 => ?_) (fun br1 => ?_)
  · refine im_r rfl rfl trivial rfl ?_
    have hC0 := hCe i (by omega)
    rw [dn_10, if_neg (by omega)] at hdn
    have hres : res = .inr (i, l, a) := by cases hdn; rfl
    rw [hres]
    exact ⟨rfl, _, _, _, rfl, hP⟩
  · refine im_g 2 (y := (17, _, _, _)) rfl trivial ?_
    refine im_call [0,1,2,3,4] rfl rfl (w_is_or (q := q) (u := u) (c := c) (k := kk) (by omega) hT hA hS) rfl rfl rfl (by decide) rfl (by decide) hT (fun v1 w1 hq => ?_)
    obtain ⟨rfl, rfl⟩ := hq
    refine ⟨_, _, RW 0 q A u c kk, rfl, rfl, rfl, ?_⟩
    refine im_b rfl rfl ⟨(by omega), trivial⟩ (fun br2 => ?_) (fun br2 => ?_)
    · have c20 : ¬ (tk_C A N i = 6) := by
        intro hh
        rw [if_pos hh] at br2
        exact absurd br2 (by decide)
      clear br2
      refine im_r rfl rfl trivial rfl ?_
      rw [dn_10, if_neg (by omega)] at hdn
      have hres : res = .inr (i, l, a) := by cases hdn; rfl
      rw [hres]
      exact ⟨rfl, _, _, _, rfl, hP⟩
    · have c20 : tk_C A N i = 6 := by
        by_cases hh : tk_C A N i = 6
        · exact hh
        · rw [if_neg hh] at br2; exact absurd rfl br2
      clear br2
      rw [dn_10, if_pos c20] at hdn
      have hlt := tk_lt (A := A) hN (i := i) (by omega)
      have hte := TS_em hTS (w := 12) (x := 0) (by decide) (by decide)
      have hS1 : RdS od A N (i + 1) l (rd_emu u) (rd_emc u c 12 0) (rd_next A q) := ⟨(RdS_next hS).1, (RdS_next hS).2.1, hte⟩
      have hue : (rd_emu u).1 ≤ u.1 + 1 := by unfold rd_emu; dsimp only; split <;> omega
      rcases d_bind_s hdn with ⟨f, q1, hres⟩ | ⟨j1, l1, m1, q1, q3⟩
      · refine im_g 3 (y := (27, _, _, _)) rfl trivial ?_
        refine im_call [0,1,2,3,4] rfl rfl (c_emit (q := q) (A := A) (u := u) (c := c) (k := kk) (by omega) hT hTS (wt := 12) (x := 0) (by decide) (by decide)) rfl rfl rfl (by decide) rfl (by decide) hT (fun v1 w1 hq => ?_)
        obtain ⟨rfl, rfl⟩ := hq
        refine ⟨_, _, RW 0 q A (rd_emu u) (rd_emc u c 12 0) kk, rfl, rfl, rfl, ?_⟩
        refine im_g 2 (y := (32, _, _, _)) rfl trivial ?_
        refine im_call [0,1,2,3,4] rfl rfl (c_step (q := q) (A := A) (u := rd_emu u) (c := rd_emc u c 12 0) (k := kk) (by omega) hT hA hS.2.1) rfl rfl rfl (by decide) rfl (by decide) hT (fun v1 w1 hq => ?_)
        obtain ⟨rfl, rfl⟩ := hq
        refine ⟨_, _, RW 0 (rd_next A q) A (rd_emu u) (rd_emc u c 12 0) kk, rfl, rfl, rfl, ?_⟩
        refine im_g 2 (y := (37, _, _, _)) rfl trivial ?_
        refine im_call [0,1,2,3,4] rfl rfl (h7 d od (rd_next A q) A N (rd_emu u) (rd_emc u c 12 0) kk (o) (i + 1) (l) (.inl f) hA (hS1) (by omega) (by omega) (by omega) (by omega) q1) rfl rfl rfl (by decide) rfl (by decide) hT (fun v1 w1 hq => ?_)
        obtain ⟨rfl, q2, u2, c2, rfl, hP2⟩ := hq
        refine ⟨_, _, RW 0 q2 A u2 c2 kk, rfl, rfl, rfl, ?_⟩
        refine im_g 2 (y := (42, _, _, _)) rfl trivial ?_
        refine im_call [0,1,2,3,4] rfl rfl (c_aim (q := q2) (A := A) (u := u2) (c := c2) (k := kk) (by omega) hT hP2.2.1 (s := u.1) (by omega)) rfl rfl rfl (by decide) rfl (by decide) hT (fun v1 w1 hq => ?_)
        obtain ⟨rfl, rfl⟩ := hq
        refine ⟨_, _, RW 0 q2 A u2 (rd_aim u2 c2 u.1) kk, rfl, rfl, rfl, ?_⟩
        refine im_g 2 (y := (7, _, _, _)) rfl trivial ?_
        refine im_g 2 (y := (11, _, _, _)) rfl trivial ?_
        refine im_b rfl rfl ⟨(by omega), (by omega), trivial⟩ (fun br1 => ?_) (fun br1 => ?_)
        · refine im_r rfl rfl trivial rfl ?_
          rw [hres]
          exact ⟨rfl, _, _, _, rfl, RdP_TS (RdP_f hP2 hP.2.2.1) (TS_aim hP2.2.1 _) rfl⟩
        · refine im_g 2 (y := (17, _, _, _)) rfl trivial ?_
          refine im_call [0,1,2,3,4] rfl rfl (c_isD (q := q2) (A := A) (u := u2) (c := (rd_aim u2 c2 u.1)) (k := kk) (o := 2000022) (by omega) hT (RdP_D hP2).2.2.1) rfl rfl rfl (by decide) rfl (by decide) hT (fun v1 w1 hq => ?_)
          obtain ⟨rfl, rfl⟩ := hq
          refine ⟨_, _, RW 0 q2 A u2 (rd_aim u2 c2 u.1) kk, rfl, rfl, rfl, ?_⟩
          refine im_bT rfl rfl ⟨(by omega), trivial⟩ rfl ?_
          refine im_r rfl rfl trivial rfl ?_
          rw [hres]
          exact ⟨rfl, _, _, _, rfl, RdP_TS (RdP_f hP2 hP.2.2.1) (TS_aim hP2.2.1 _) rfl⟩
      · have hj1 := dn_nt hN (by decide) hlt q1
        refine im_g 3 (y := (27, _, _, _)) rfl trivial ?_
        refine im_call [0,1,2,3,4] rfl rfl (c_emit (q := q) (A := A) (u := u) (c := c) (k := kk) (by omega) hT hTS (wt := 12) (x := 0) (by decide) (by decide)) rfl rfl rfl (by decide) rfl (by decide) hT (fun v1 w1 hq => ?_)
        obtain ⟨rfl, rfl⟩ := hq
        refine ⟨_, _, RW 0 q A (rd_emu u) (rd_emc u c 12 0) kk, rfl, rfl, rfl, ?_⟩
        refine im_g 2 (y := (32, _, _, _)) rfl trivial ?_
        refine im_call [0,1,2,3,4] rfl rfl (c_step (q := q) (A := A) (u := rd_emu u) (c := rd_emc u c 12 0) (k := kk) (by omega) hT hA hS.2.1) rfl rfl rfl (by decide) rfl (by decide) hT (fun v1 w1 hq => ?_)
        obtain ⟨rfl, rfl⟩ := hq
        refine ⟨_, _, RW 0 (rd_next A q) A (rd_emu u) (rd_emc u c 12 0) kk, rfl, rfl, rfl, ?_⟩
        refine im_g 2 (y := (37, _, _, _)) rfl trivial ?_
        refine im_call [0,1,2,3,4] rfl rfl (h7 d od (rd_next A q) A N (rd_emu u) (rd_emc u c 12 0) kk (o) (i + 1) (l) (.inr (j1, l1, m1)) hA (hS1) (by omega) (by omega) (by omega) (by omega) q1) rfl rfl rfl (by decide) rfl (by decide) hT (fun v1 w1 hq => ?_)
        obtain ⟨rfl, q2, u2, c2, rfl, hP2⟩ := hq
        refine ⟨_, _, RW 0 q2 A u2 c2 kk, rfl, rfl, rfl, ?_⟩
        refine im_g 2 (y := (42, _, _, _)) rfl trivial ?_
        refine im_call [0,1,2,3,4] rfl rfl (c_aim (q := q2) (A := A) (u := u2) (c := c2) (k := kk) (by omega) hT hP2.2.1 (s := u.1) (by omega)) rfl rfl rfl (by decide) rfl (by decide) hT (fun v1 w1 hq => ?_)
        obtain ⟨rfl, rfl⟩ := hq
        refine ⟨_, _, RW 0 q2 A u2 (rd_aim u2 c2 u.1) kk, rfl, rfl, rfl, ?_⟩
        refine im_g 2 (y := (7, _, _, _)) rfl trivial ?_
        exact h4 d od _ A N i0 u0 _ c0 _ kk o j1 l1 (ci + 1) _ res _ hA (RdP_log (w := 12) (a_ := tk_nt A N) hP hP2 hroom hj1.2 (by omega) (Or.inl ⟨rfl, rfl⟩) hu0) hu0 ho (by omega) hj1.2 hroom (by omega) q3
set_option maxHeartbeats 8000000 in
theorem rd_7 (hT : T.length < 1000) {n : Nat} (h5 : RdM ro T n 5 51 7 4) (h4 : RdR ro T n 8 ab_k_X5_readBoth 7 4) : RdM ro T (n + 1) 7 50 8 4 := by
  intro d od q A N u c kk o i l res hA h ho hd hnt hroom hdn
  obtain ⟨d, rfl⟩ : ∃ e, d = e + 1 := ⟨d - 1, by omega⟩
  have hN := RdS_N h
  have hTS := h.2.2
  have hu1 := hTS.1
  rw [dn_7] at hdn
  have htn := (tk_nt_b (A := A) hN).1
  have h0i : 0 ≤ i := h.2.1.2.1
  refine im_ct_of (own := 5) (ret := none) (code := ab_k_X5_readBoth) (nL := 4) (L0 := [some (mr 0), some (.inl o), none, none]) (n := 5) rfl rfl rfl rfl rfl rfl rfl rfl rfl ?_
  rcases d_bind_s hdn with ⟨f, q1, hres⟩ | ⟨j1, l1, m1, q1, q3⟩
  · refine im_g 2 (y := (2, _, _, _)) rfl trivial ?_
    refine im_call [0,1,2,3,4] rfl rfl (h5 d od (q) A N (u) (c) kk (o) (i) (l) (.inl f) hA (h) (by omega) (by omega) (by omega) (by omega) q1) rfl rfl rfl (by decide) rfl (by decide) hT (fun v1 w1 hq => ?_)
    obtain ⟨rfl, q2, u2, c2, rfl, hP2⟩ := hq
    refine ⟨_, _, RW 0 q2 A u2 c2 kk, rfl, rfl, rfl, ?_⟩
    refine im_g 2 (y := (7, _, _, _)) rfl trivial ?_
    refine im_g 2 (y := (11, _, _, _)) rfl trivial ?_
    refine im_b rfl rfl ⟨(by omega), (by omega), trivial⟩ (fun br1 => ?_) (fun br1 => ?_)
    · refine im_r rfl rfl trivial rfl ?_
      rw [hres]
      exact ⟨rfl, _, _, _, rfl, RdP_f hP2 rfl⟩
    · refine im_g 2 (y := (17, _, _, _)) rfl trivial ?_
      refine im_call [0,1,2,3,4] rfl rfl (c_isD (q := q2) (A := A) (u := u2) (c := c2) (k := kk) (o := 2000021) (by omega) hT (RdP_D hP2).2.2.1) rfl rfl rfl (by decide) rfl (by decide) hT (fun v1 w1 hq => ?_)
      obtain ⟨rfl, rfl⟩ := hq
      refine ⟨_, _, RW 0 q2 A u2 c2 kk, rfl, rfl, rfl, ?_⟩
      refine im_bT rfl rfl ⟨(by omega), trivial⟩ rfl ?_
      refine im_r rfl rfl trivial rfl ?_
      rw [hres]
      exact ⟨rfl, _, _, _, rfl, RdP_f hP2 rfl⟩
  · refine im_g 2 (y := (2, _, _, _)) rfl trivial ?_
    refine im_call [0,1,2,3,4] rfl rfl (h5 d od (q) A N (u) (c) kk (o) (i) (l) (.inr (j1, l1, m1)) hA (h) (by omega) (by omega) (by omega) (by omega) q1) rfl rfl rfl (by decide) rfl (by decide) hT (fun v1 w1 hq => ?_)
    obtain ⟨rfl, q2, u2, c2, rfl, hP2⟩ := hq
    refine ⟨_, _, RW 0 q2 A u2 c2 kk, rfl, rfl, rfl, ?_⟩
    refine im_g 2 (y := (7, _, _, _)) rfl trivial ?_
    have hj1 := dn_nt hN (by decide) hnt q1
    exact h4 d od q2 A N i u u2 c c2 kk o j1 l1 0 m1 res none hA (RdP_more hP2 (by omega)) (by omega) ho (by omega) hj1.2 hroom (by omega) q3
set_option maxHeartbeats 8000000 in
theorem rd_9 (hT : T.length < 1000) {n : Nat} (h7 : RdM ro T n 7 50 8 4) (h4 : RdR ro T n 10 ab_k_X5_readTest 8 4) : RdM ro T (n + 1) 9 49 9 4 := by
  intro d od q A N u c kk o i l res hA h ho hd hnt hroom hdn
  obtain ⟨d, rfl⟩ : ∃ e, d = e + 1 := ⟨d - 1, by omega⟩
  have hN := RdS_N h
  have hTS := h.2.2
  have hu1 := hTS.1
  rw [dn_9] at hdn
  have htn := (tk_nt_b (A := A) hN).1
  have h0i : 0 ≤ i := h.2.1.2.1
  refine im_ct_of (own := 5) (ret := none) (code := ab_k_X5_readTest) (nL := 4) (L0 := [some (mr 0), some (.inl o), none, none]) (n := 5) rfl rfl rfl rfl rfl rfl rfl rfl rfl ?_
  rcases d_bind_s hdn with ⟨f, q1, hres⟩ | ⟨j1, l1, m1, q1, q3⟩
  · refine im_g 2 (y := (2, _, _, _)) rfl trivial ?_
    refine im_call [0,1,2,3,4] rfl rfl (h7 d od (q) A N (u) (c) kk (o) (i) (l) (.inl f) hA (h) (by omega) (by omega) (by omega) (by omega) q1) rfl rfl rfl (by decide) rfl (by decide) hT (fun v1 w1 hq => ?_)
    obtain ⟨rfl, q2, u2, c2, rfl, hP2⟩ := hq
    refine ⟨_, _, RW 0 q2 A u2 c2 kk, rfl, rfl, rfl, ?_⟩
    refine im_g 2 (y := (7, _, _, _)) rfl trivial ?_
    refine im_g 2 (y := (11, _, _, _)) rfl trivial ?_
    refine im_b rfl rfl ⟨(by omega), (by omega), trivial⟩ (fun br1 => ?_) (fun br1 => ?_)
    · refine im_r rfl rfl trivial rfl ?_
      rw [hres]
      exact ⟨rfl, _, _, _, rfl, RdP_f hP2 rfl⟩
    · refine im_g 2 (y := (17, _, _, _)) rfl trivial ?_
      refine im_call [0,1,2,3,4] rfl rfl (c_isD (q := q2) (A := A) (u := u2) (c := c2) (k := kk) (o := 2000022) (by omega) hT (RdP_D hP2).2.2.1) rfl rfl rfl (by decide) rfl (by decide) hT (fun v1 w1 hq => ?_)
      obtain ⟨rfl, rfl⟩ := hq
      refine ⟨_, _, RW 0 q2 A u2 c2 kk, rfl, rfl, rfl, ?_⟩
      refine im_bT rfl rfl ⟨(by omega), trivial⟩ rfl ?_
      refine im_r rfl rfl trivial rfl ?_
      rw [hres]
      exact ⟨rfl, _, _, _, rfl, RdP_f hP2 rfl⟩
  · refine im_g 2 (y := (2, _, _, _)) rfl trivial ?_
    refine im_call [0,1,2,3,4] rfl rfl (h7 d od (q) A N (u) (c) kk (o) (i) (l) (.inr (j1, l1, m1)) hA (h) (by omega) (by omega) (by omega) (by omega) q1) rfl rfl rfl (by decide) rfl (by decide) hT (fun v1 w1 hq => ?_)
    obtain ⟨rfl, q2, u2, c2, rfl, hP2⟩ := hq
    refine ⟨_, _, RW 0 q2 A u2 c2 kk, rfl, rfl, rfl, ?_⟩
    refine im_g 2 (y := (7, _, _, _)) rfl trivial ?_
    have hj1 := dn_nt hN (by decide) hnt q1
    exact h4 d od q2 A N i u u2 c c2 kk o j1 l1 0 m1 res none hA (RdP_more hP2 (by omega)) (by omega) ho (by omega) hj1.2 hroom (by omega) q3
set_option maxHeartbeats 8000000 in
theorem rd_6 (hT : T.length < 1000) {n : Nat} (h3 : RdM ro T n 3 52 6 3) (h9 : RdM ro T n 9 49 9 4) : Rd6 ro T (n + 1) := by
  intro d od q A N u c kk o i i0 l res nb x3 hA h ho hd hnt hroom hi0 hdn
  have hN := RdS_N h
  have hTS := h.2.2
  have hu1 := hTS.1
  refine im_g 2 (y := (43, _, _, _)) rfl trivial ?_
  refine im_call [0,1,2,3,4] rfl rfl (w_sign (q := q) (u := u) (c := c) (k := kk) (by omega) hT hA h (b := 40) (by decide)) rfl rfl rfl (by decide) rfl (by decide) hT (fun v1 w1 hq => ?_)
  obtain ⟨rfl, rfl⟩ := hq
  refine ⟨_, _, RW 0 q A u c kk, rfl, rfl, rfl, ?_⟩
  refine im_b rfl rfl ⟨(by omega), trivial⟩ (fun br1 => ?_) (fun br1 => ?_)
  · have c46 : ¬ (tk_C A N i = 100 + 40) := by
      intro hh
      rw [if_pos hh] at br1
      exact absurd br1 (by decide)
    clear br1
    replace c46 : ¬ tk_C A N i = 140 := c46
    rw [dn_6, if_neg c46] at hdn
    rcases d_bind_s hdn with ⟨f, q1, hres⟩ | ⟨j1, l1, m1, q1, q3⟩
    · refine im_g 2 (y := (75, _, _, _)) rfl trivial ?_
      refine im_call [0,1,2,3,4] rfl rfl (h3 d od (q) A N (u) (c) kk (o) (i) (l) (.inl f) hA (h) (by omega) (by omega) (by omega) (by omega) q1) rfl rfl rfl (by decide) rfl (by decide) hT (fun v1 w1 hq => ?_)
      obtain ⟨rfl, q2, u2, c2, rfl, hP2⟩ := hq
      refine ⟨_, _, RW 0 q2 A u2 c2 kk, rfl, rfl, rfl, ?_⟩
      refine im_g 2 (y := (81, _, _, _)) rfl trivial ?_
      refine im_call [0,1,2,3,4] rfl rfl (c_isSignD (q := q2) (A := A) (u := u2) (c := c2) (k := kk) (by omega) hT (RdP_D hP2).2.2.1 (b := 60)) rfl rfl rfl (by decide) rfl (by decide) hT (fun v1 w1 hq => ?_)
      obtain ⟨rfl, rfl⟩ := hq
      refine ⟨_, _, RW 0 q2 A u2 c2 kk, rfl, rfl, rfl, ?_⟩
      refine im_bT rfl rfl ⟨(by omega), trivial⟩ rfl ?_
      refine im_g 2 (y := (95, _, _, _)) rfl trivial ?_
      refine im_call [0,1,2,3,4] rfl rfl (c_isSignD (q := q2) (A := A) (u := u2) (c := c2) (k := kk) (by omega) hT (RdP_D hP2).2.2.1 (b := 62)) rfl rfl rfl (by decide) rfl (by decide) hT (fun v1 w1 hq => ?_)
      obtain ⟨rfl, rfl⟩ := hq
      refine ⟨_, _, RW 0 q2 A u2 c2 kk, rfl, rfl, rfl, ?_⟩
      refine im_bT rfl rfl ⟨(by omega), trivial⟩ rfl ?_
      refine im_g 2 (y := (109, _, _, _)) rfl trivial ?_
      refine im_call [0,1,2,3,4] rfl rfl (c_isSignD (q := q2) (A := A) (u := u2) (c := c2) (k := kk) (by omega) hT (RdP_D hP2).2.2.1 (b := 61)) rfl rfl rfl (by decide) rfl (by decide) hT (fun v1 w1 hq => ?_)
      obtain ⟨rfl, rfl⟩ := hq
      refine ⟨_, _, RW 0 q2 A u2 c2 kk, rfl, rfl, rfl, ?_⟩
      refine im_bT rfl rfl ⟨(by omega), trivial⟩ rfl ?_
      refine im_g 4 (y := (124, _, _, _)) rfl trivial ?_
      refine im_bF rfl rfl ⟨(by omega), (by omega), trivial⟩ (fun z => z rfl) ?_
      refine im_g 1 (y := (128, _, _, _)) rfl trivial ?_
      refine im_call [0,1,2,3,4] rfl rfl (c_fail (q := q2) (A := A) (u := u2) (c := c2) (k := kk) (by omega) hT (by have t := (RdP_D hP2).2.2.2; constructor <;> omega)) rfl rfl rfl (by decide) rfl (by decide) hT (fun v1 w1 hq => ?_)
      obtain ⟨rfl, rfl⟩ := hq
      refine ⟨_, _, RW 0 (rd_fail q2) A u2 c2 kk, rfl, rfl, rfl, ?_⟩
      refine im_r rfl rfl trivial rfl ?_
      rw [hres, RDd_dead (RdP_D hP2)]
      exact ⟨rfl, _, _, _, rfl, RdP_f hP2 rfl⟩
    · have hj1 := dn_nt hN (by decide) hnt q1
      refine im_g 2 (y := (75, _, _, _)) rfl trivial ?_
      refine im_call [0,1,2,3,4] rfl rfl (h3 d od (q) A N (u) (c) kk (o) (i) (l) (.inr (j1, l1, m1)) hA (h) (by omega) (by omega) (by omega) (by omega) q1) rfl rfl rfl (by decide) rfl (by decide) hT (fun v1 w1 hq => ?_)
      obtain ⟨rfl, q2, u2, c2, rfl, hP2⟩ := hq
      refine ⟨_, _, RW 0 q2 A u2 c2 kk, rfl, rfl, rfl, ?_⟩
      have hS2 := RdP_S hP2
      have hsz2 := hP2.2.2.2.2.1
      refine im_g 2 (y := (81, _, _, _)) rfl trivial ?_
      refine im_call [0,1,2,3,4] rfl rfl (w_sign (q := q2) (u := u2) (c := c2) (k := kk) (by omega) hT hA hS2 (b := 60) (by decide)) rfl rfl rfl (by decide) rfl (by decide) hT (fun v1 w1 hq => ?_)
      obtain ⟨rfl, rfl⟩ := hq
      refine ⟨_, _, RW 0 q2 A u2 c2 kk, rfl, rfl, rfl, ?_⟩
      refine im_b rfl rfl ⟨(by omega), trivial⟩ (fun br1 => ?_) (fun br1 => ?_)
      · have c84 : ¬ (tk_C A N j1 = 100 + 60) := by
          intro hh
          rw [if_pos hh] at br1
          exact absurd br1 (by decide)
        clear br1
        refine im_g 2 (y := (95, _, _, _)) rfl trivial ?_
        refine im_call [0,1,2,3,4] rfl rfl (w_sign (q := q2) (u := u2) (c := c2) (k := kk) (by omega) hT hA hS2 (b := 62) (by decide)) rfl rfl rfl (by decide) rfl (by decide) hT (fun v1 w1 hq => ?_)
        obtain ⟨rfl, rfl⟩ := hq
        refine ⟨_, _, RW 0 q2 A u2 c2 kk, rfl, rfl, rfl, ?_⟩
        refine im_b rfl rfl ⟨(by omega), trivial⟩ (fun br2 => ?_) (fun br2 => ?_)
        · have c98 : ¬ (tk_C A N j1 = 100 + 62) := by
            intro hh
            rw [if_pos hh] at br2
            exact absurd br2 (by decide)
          clear br2
          refine im_g 2 (y := (109, _, _, _)) rfl trivial ?_
          refine im_call [0,1,2,3,4] rfl rfl (w_sign (q := q2) (u := u2) (c := c2) (k := kk) (by omega) hT hA hS2 (b := 61) (by decide)) rfl rfl rfl (by decide) rfl (by decide) hT (fun v1 w1 hq => ?_)
          obtain ⟨rfl, rfl⟩ := hq
          refine ⟨_, _, RW 0 q2 A u2 c2 kk, rfl, rfl, rfl, ?_⟩
          refine im_b rfl rfl ⟨(by omega), trivial⟩ (fun br3 => ?_) (fun br3 => ?_)
          · have c112 : ¬ (tk_C A N j1 = 100 + 61) := by
              intro hh
              rw [if_pos hh] at br3
              exact absurd br3 (by decide)
            clear br3
            refine im_g 4 (y := (124, _, _, _)) rfl trivial ?_
            refine im_bF rfl rfl ⟨(by omega), (by omega), trivial⟩ (fun z => z rfl) ?_
            refine im_g 1 (y := (128, _, _, _)) rfl trivial ?_
            refine im_call [0,1,2,3,4] rfl rfl (c_fail (q := q2) (A := A) (u := u2) (c := c2) (k := kk) (by omega) hT (by rw [hS2.2.1.2.2.2.2.2]; decide)) rfl rfl rfl (by decide) rfl (by decide) hT (fun v1 w1 hq => ?_)
            obtain ⟨rfl, rfl⟩ := hq
            refine ⟨_, _, RW 0 (rd_fail q2) A u2 c2 kk, rfl, rfl, rfl, ?_⟩
            refine im_r rfl rfl trivial rfl ?_
            rw [if_neg (by omega)] at q3
            have hres : res = .inl j1 := by cases q3; rfl
            rw [hres]
            exact ⟨rfl, _, _, _, rfl, RdP_f (RdP_fail hP2) rfl⟩
          · have c112 : tk_C A N j1 = 100 + 61 := by
              by_cases hh : tk_C A N j1 = 100 + 61
              · exact hh
              · rw [if_neg hh] at br3; exact absurd rfl br3
            clear br3
            refine im_g 5 (y := (124, _, _, _)) rfl trivial ?_
            refine im_bT rfl rfl ⟨(by omega), (by omega), trivial⟩ (by decide) ?_
            rw [if_pos (by omega), show d_cw (tk_C A N j1) = 10 by unfold d_cw; rw [if_neg (by omega), if_neg (by omega)]] at q3
            have hlt2 := tk_lt (A := A) hN (i := j1) (by omega)
            have hS3 := RdS_next hS2
            rcases d_bind_s q3 with ⟨f, q4, hres⟩ | ⟨j2, l2, m2, q4e, q5⟩
            · refine im_g 1 (y := (133, _, _, _)) rfl trivial ?_
              refine im_call [0,1,2,3,4] rfl rfl (c_step (q := q2) (A := A) (u := u2) (c := c2) (k := kk) (by omega) hT hA hS2.2.1) rfl rfl rfl (by decide) rfl (by decide) hT (fun v1 w1 hq => ?_)
              obtain ⟨rfl, rfl⟩ := hq
              refine ⟨_, _, RW 0 (rd_next A q2) A u2 c2 kk, rfl, rfl, rfl, ?_⟩
              refine im_g 2 (y := (138, _, _, _)) rfl trivial ?_
              refine im_call [0,1,2,3,4] rfl rfl (h3 d od (rd_next A q2) A N (u2) (c2) kk (o) (j1 + 1) (l1) (.inl f) hA (hS3) (by omega) (by omega) (by omega) (by omega) q4) rfl rfl rfl (by decide) rfl (by decide) hT (fun v1 w1 hq => ?_)
              obtain ⟨rfl, q4, u4, c4, rfl, hP4⟩ := hq
              refine ⟨_, _, RW 0 q4 A u4 c4 kk, rfl, rfl, rfl, ?_⟩
              refine im_g 3 (y := (144, _, _, _)) rfl trivial ?_
              refine im_call [0,1,2,3,4] rfl rfl (c_emit (q := q4) (A := A) (u := u4) (c := c4) (k := kk) (by omega) hT hP4.2.1 (wt := 10) (x := 0) (by decide) (by decide)) rfl rfl rfl (by decide) rfl (by decide) hT (fun v1 w1 hq => ?_)
              obtain ⟨rfl, rfl⟩ := hq
              refine ⟨_, _, RW 0 q4 A (rd_emu u4) (rd_emc u4 c4 10 0) kk, rfl, rfl, rfl, ?_⟩
              refine im_g 1 (y := (148, _, _, _)) rfl trivial ?_
              rw [hres]
              have hF := RdP_TS (RdP_f (i1 := i0) (u1 := u) (c1 := c) (need1 := 3 * (8 - o) + 4) hP4 hP2.2.2.1) (TS_em (w := 10) (x := 0) hP4.2.1 (by decide) (by decide)) rfl
              cases nb with
              | false =>
                refine im_g 1 (y := (149, _, _, _)) rfl trivial ?_
                refine im_bT rfl rfl ⟨(by decide), trivial⟩ rfl ?_
                refine im_r rfl rfl trivial rfl ?_
                exact ⟨rfl, _, _, _, rfl, hF⟩
              | true =>
                refine im_g 1 (y := (149, _, _, _)) rfl trivial ?_
                refine im_bF rfl rfl ⟨(by decide), trivial⟩ (by decide) ?_
                refine im_g 3 (y := (156, _, _, _)) rfl trivial ?_
                refine im_call [0,1,2,3,4] rfl rfl (c_emit (q := q4) (A := A) (u := (rd_emu u4)) (c := (rd_emc u4 c4 10 0)) (k := kk) (by omega) hT hF.2.1 (wt := 11) (x := 0) (by decide) (by decide)) rfl rfl rfl (by decide) rfl (by decide) hT (fun v1 w1 hq => ?_)
                obtain ⟨rfl, rfl⟩ := hq
                refine ⟨_, _, RW 0 q4 A (rd_emu (rd_emu u4)) (rd_emc (rd_emu u4) (rd_emc u4 c4 10 0) 11 0) kk, rfl, rfl, rfl, ?_⟩
                refine im_g 1 (y := (160, _, _, _)) rfl trivial ?_
                refine im_r rfl rfl trivial rfl ?_
                exact ⟨rfl, _, _, _, rfl, RdP_TS hF (TS_em hF.2.1 (by decide) (by decide)) rfl⟩
            · have hj2 := dn_nt hN (by decide) hlt2 q4e
              have hres : res = .inr (j2, l2, d_op 10 m1 m2) := by cases q5; rfl
              refine im_g 1 (y := (133, _, _, _)) rfl trivial ?_
              refine im_call [0,1,2,3,4] rfl rfl (c_step (q := q2) (A := A) (u := u2) (c := c2) (k := kk) (by omega) hT hA hS2.2.1) rfl rfl rfl (by decide) rfl (by decide) hT (fun v1 w1 hq => ?_)
              obtain ⟨rfl, rfl⟩ := hq
              refine ⟨_, _, RW 0 (rd_next A q2) A u2 c2 kk, rfl, rfl, rfl, ?_⟩
              refine im_g 2 (y := (138, _, _, _)) rfl trivial ?_
              refine im_call [0,1,2,3,4] rfl rfl (h3 d od (rd_next A q2) A N (u2) (c2) kk (o) (j1 + 1) (l1) (.inr (j2, l2, m2)) hA (hS3) (by omega) (by omega) (by omega) (by omega) q4e) rfl rfl rfl (by decide) rfl (by decide) hT (fun v1 w1 hq => ?_)
              obtain ⟨rfl, q4, u4, c4, rfl, hP4⟩ := hq
              refine ⟨_, _, RW 0 q4 A u4 c4 kk, rfl, rfl, rfl, ?_⟩
              refine im_g 3 (y := (144, _, _, _)) rfl trivial ?_
              refine im_call [0,1,2,3,4] rfl rfl (c_emit (q := q4) (A := A) (u := u4) (c := c4) (k := kk) (by omega) hT hP4.2.1 (wt := 10) (x := 0) (by decide) (by decide)) rfl rfl rfl (by decide) rfl (by decide) hT (fun v1 w1 hq => ?_)
              obtain ⟨rfl, rfl⟩ := hq
              refine ⟨_, _, RW 0 q4 A (rd_emu u4) (rd_emc u4 c4 10 0) kk, rfl, rfl, rfl, ?_⟩
              refine im_g 1 (y := (148, _, _, _)) rfl trivial ?_
              have hsz : (rd_emu u4).1 + i ≤ u.1 + j2 := by
                have t1 := hP2.2.2.2.2.1.2
                have t2 := hP4.2.2.2.2.1.2
                have t3 : (rd_emu u4).1 ≤ u4.1 + 1 := by unfold rd_emu; dsimp only; split <;> omega
                omega
              rw [hres]
              have hF := RdP_base (i1 := i0) (RdP_more (need' := 3 * (8 - o) + 4) (RdP_op (w := 10) (a_ := tk_nt A N) (RdP_more (need' := 3 * (8 - o) + 4) hP2 (by omega)) hP4 (by omega) hj2.2 (by omega) (by decide) (by omega)) (Int.le_refl _)) hi0.1
              cases nb with
              | false =>
                refine im_g 1 (y := (149, _, _, _)) rfl trivial ?_
                refine im_bT rfl rfl ⟨(by decide), trivial⟩ rfl ?_
                refine im_r rfl rfl trivial rfl ?_
                exact ⟨rfl, _, _, _, rfl, hF⟩
              | true =>
                refine im_g 1 (y := (149, _, _, _)) rfl trivial ?_
                refine im_bF rfl rfl ⟨(by decide), trivial⟩ (by decide) ?_
                refine im_g 3 (y := (156, _, _, _)) rfl trivial ?_
                refine im_call [0,1,2,3,4] rfl rfl (c_emit (q := q4) (A := A) (u := (rd_emu u4)) (c := (rd_emc u4 c4 10 0)) (k := kk) (by omega) hT hF.2.1 (wt := 11) (x := 0) (by decide) (by decide)) rfl rfl rfl (by decide) rfl (by decide) hT (fun v1 w1 hq => ?_)
                obtain ⟨rfl, rfl⟩ := hq
                refine ⟨_, _, RW 0 q4 A (rd_emu (rd_emu u4)) (rd_emc (rd_emu u4) (rd_emc u4 c4 10 0) 11 0) kk, rfl, rfl, rfl, ?_⟩
                refine im_g 1 (y := (160, _, _, _)) rfl trivial ?_
                refine im_r rfl rfl trivial rfl ?_
                exact ⟨rfl, _, _, _, rfl, RdP_not (a_ := tk_nt A N) hF hroom (by omega) (by have t1 := hi0.2 rfl; have t2 := hsz; omega)⟩
        · have c98 : tk_C A N j1 = 100 + 62 := by
            by_cases hh : tk_C A N j1 = 100 + 62
            · exact hh
            · rw [if_neg hh] at br2; exact absurd rfl br2
          clear br2
          refine im_g 5 (y := (124, _, _, _)) rfl trivial ?_
          refine im_bT rfl rfl ⟨(by omega), (by omega), trivial⟩ (by decide) ?_
          rw [if_pos (by omega), show d_cw (tk_C A N j1) = 9 by unfold d_cw; rw [if_neg (by omega), if_pos (by omega)]] at q3
          have hlt2 := tk_lt (A := A) hN (i := j1) (by omega)
          have hS3 := RdS_next hS2
          rcases d_bind_s q3 with ⟨f, q4, hres⟩ | ⟨j2, l2, m2, q4e, q5⟩
          · refine im_g 1 (y := (133, _, _, _)) rfl trivial ?_
            refine im_call [0,1,2,3,4] rfl rfl (c_step (q := q2) (A := A) (u := u2) (c := c2) (k := kk) (by omega) hT hA hS2.2.1) rfl rfl rfl (by decide) rfl (by decide) hT (fun v1 w1 hq => ?_)
            obtain ⟨rfl, rfl⟩ := hq
            refine ⟨_, _, RW 0 (rd_next A q2) A u2 c2 kk, rfl, rfl, rfl, ?_⟩
            refine im_g 2 (y := (138, _, _, _)) rfl trivial ?_
            refine im_call [0,1,2,3,4] rfl rfl (h3 d od (rd_next A q2) A N (u2) (c2) kk (o) (j1 + 1) (l1) (.inl f) hA (hS3) (by omega) (by omega) (by omega) (by omega) q4) rfl rfl rfl (by decide) rfl (by decide) hT (fun v1 w1 hq => ?_)
            obtain ⟨rfl, q4, u4, c4, rfl, hP4⟩ := hq
            refine ⟨_, _, RW 0 q4 A u4 c4 kk, rfl, rfl, rfl, ?_⟩
            refine im_g 3 (y := (144, _, _, _)) rfl trivial ?_
            refine im_call [0,1,2,3,4] rfl rfl (c_emit (q := q4) (A := A) (u := u4) (c := c4) (k := kk) (by omega) hT hP4.2.1 (wt := 9) (x := 0) (by decide) (by decide)) rfl rfl rfl (by decide) rfl (by decide) hT (fun v1 w1 hq => ?_)
            obtain ⟨rfl, rfl⟩ := hq
            refine ⟨_, _, RW 0 q4 A (rd_emu u4) (rd_emc u4 c4 9 0) kk, rfl, rfl, rfl, ?_⟩
            refine im_g 1 (y := (148, _, _, _)) rfl trivial ?_
            rw [hres]
            have hF := RdP_TS (RdP_f (i1 := i0) (u1 := u) (c1 := c) (need1 := 3 * (8 - o) + 4) hP4 hP2.2.2.1) (TS_em (w := 9) (x := 0) hP4.2.1 (by decide) (by decide)) rfl
            cases nb with
            | false =>
              refine im_g 1 (y := (149, _, _, _)) rfl trivial ?_
              refine im_bT rfl rfl ⟨(by decide), trivial⟩ rfl ?_
              refine im_r rfl rfl trivial rfl ?_
              exact ⟨rfl, _, _, _, rfl, hF⟩
            | true =>
              refine im_g 1 (y := (149, _, _, _)) rfl trivial ?_
              refine im_bF rfl rfl ⟨(by decide), trivial⟩ (by decide) ?_
              refine im_g 3 (y := (156, _, _, _)) rfl trivial ?_
              refine im_call [0,1,2,3,4] rfl rfl (c_emit (q := q4) (A := A) (u := (rd_emu u4)) (c := (rd_emc u4 c4 9 0)) (k := kk) (by omega) hT hF.2.1 (wt := 11) (x := 0) (by decide) (by decide)) rfl rfl rfl (by decide) rfl (by decide) hT (fun v1 w1 hq => ?_)
              obtain ⟨rfl, rfl⟩ := hq
              refine ⟨_, _, RW 0 q4 A (rd_emu (rd_emu u4)) (rd_emc (rd_emu u4) (rd_emc u4 c4 9 0) 11 0) kk, rfl, rfl, rfl, ?_⟩
              refine im_g 1 (y := (160, _, _, _)) rfl trivial ?_
              refine im_r rfl rfl trivial rfl ?_
              exact ⟨rfl, _, _, _, rfl, RdP_TS hF (TS_em hF.2.1 (by decide) (by decide)) rfl⟩
          · have hj2 := dn_nt hN (by decide) hlt2 q4e
            have hres : res = .inr (j2, l2, d_op 9 m1 m2) := by cases q5; rfl
            refine im_g 1 (y := (133, _, _, _)) rfl trivial ?_
            refine im_call [0,1,2,3,4] rfl rfl (c_step (q := q2) (A := A) (u := u2) (c := c2) (k := kk) (by omega) hT hA hS2.2.1) rfl rfl rfl (by decide) rfl (by decide) hT (fun v1 w1 hq => ?_)
            obtain ⟨rfl, rfl⟩ := hq
            refine ⟨_, _, RW 0 (rd_next A q2) A u2 c2 kk, rfl, rfl, rfl, ?_⟩
            refine im_g 2 (y := (138, _, _, _)) rfl trivial ?_
            refine im_call [0,1,2,3,4] rfl rfl (h3 d od (rd_next A q2) A N (u2) (c2) kk (o) (j1 + 1) (l1) (.inr (j2, l2, m2)) hA (hS3) (by omega) (by omega) (by omega) (by omega) q4e) rfl rfl rfl (by decide) rfl (by decide) hT (fun v1 w1 hq => ?_)
            obtain ⟨rfl, q4, u4, c4, rfl, hP4⟩ := hq
            refine ⟨_, _, RW 0 q4 A u4 c4 kk, rfl, rfl, rfl, ?_⟩
            refine im_g 3 (y := (144, _, _, _)) rfl trivial ?_
            refine im_call [0,1,2,3,4] rfl rfl (c_emit (q := q4) (A := A) (u := u4) (c := c4) (k := kk) (by omega) hT hP4.2.1 (wt := 9) (x := 0) (by decide) (by decide)) rfl rfl rfl (by decide) rfl (by decide) hT (fun v1 w1 hq => ?_)
            obtain ⟨rfl, rfl⟩ := hq
            refine ⟨_, _, RW 0 q4 A (rd_emu u4) (rd_emc u4 c4 9 0) kk, rfl, rfl, rfl, ?_⟩
            refine im_g 1 (y := (148, _, _, _)) rfl trivial ?_
            have hsz : (rd_emu u4).1 + i ≤ u.1 + j2 := by
              have t1 := hP2.2.2.2.2.1.2
              have t2 := hP4.2.2.2.2.1.2
              have t3 : (rd_emu u4).1 ≤ u4.1 + 1 := by unfold rd_emu; dsimp only; split <;> omega
              omega
            rw [hres]
            have hF := RdP_base (i1 := i0) (RdP_more (need' := 3 * (8 - o) + 4) (RdP_op (w := 9) (a_ := tk_nt A N) (RdP_more (need' := 3 * (8 - o) + 4) hP2 (by omega)) hP4 (by omega) hj2.2 (by omega) (by decide) (by omega)) (Int.le_refl _)) hi0.1
            cases nb with
            | false =>
              refine im_g 1 (y := (149, _, _, _)) rfl trivial ?_
              refine im_bT rfl rfl ⟨(by decide), trivial⟩ rfl ?_
              refine im_r rfl rfl trivial rfl ?_
              exact ⟨rfl, _, _, _, rfl, hF⟩
            | true =>
              refine im_g 1 (y := (149, _, _, _)) rfl trivial ?_
              refine im_bF rfl rfl ⟨(by decide), trivial⟩ (by decide) ?_
              refine im_g 3 (y := (156, _, _, _)) rfl trivial ?_
              refine im_call [0,1,2,3,4] rfl rfl (c_emit (q := q4) (A := A) (u := (rd_emu u4)) (c := (rd_emc u4 c4 9 0)) (k := kk) (by omega) hT hF.2.1 (wt := 11) (x := 0) (by decide) (by decide)) rfl rfl rfl (by decide) rfl (by decide) hT (fun v1 w1 hq => ?_)
              obtain ⟨rfl, rfl⟩ := hq
              refine ⟨_, _, RW 0 q4 A (rd_emu (rd_emu u4)) (rd_emc (rd_emu u4) (rd_emc u4 c4 9 0) 11 0) kk, rfl, rfl, rfl, ?_⟩
              refine im_g 1 (y := (160, _, _, _)) rfl trivial ?_
              refine im_r rfl rfl trivial rfl ?_
              exact ⟨rfl, _, _, _, rfl, RdP_not (a_ := tk_nt A N) hF hroom (by omega) (by have t1 := hi0.2 rfl; have t2 := hsz; omega)⟩
      · have c84 : tk_C A N j1 = 100 + 60 := by
          by_cases hh : tk_C A N j1 = 100 + 60
          · exact hh
          · rw [if_neg hh] at br1; exact absurd rfl br1
        clear br1
        refine im_g 5 (y := (124, _, _, _)) rfl trivial ?_
        refine im_bT rfl rfl ⟨(by omega), (by omega), trivial⟩ (by decide) ?_
        rw [if_pos (by omega), show d_cw (tk_C A N j1) = 8 by unfold d_cw; rw [if_pos (by omega)]] at q3
        have hlt2 := tk_lt (A := A) hN (i := j1) (by omega)
        have hS3 := RdS_next hS2
        rcases d_bind_s q3 with ⟨f, q4, hres⟩ | ⟨j2, l2, m2, q4e, q5⟩
        · refine im_g 1 (y := (133, _, _, _)) rfl trivial ?_
          refine im_call [0,1,2,3,4] rfl rfl (c_step (q := q2) (A := A) (u := u2) (c := c2) (k := kk) (by omega) hT hA hS2.2.1) rfl rfl rfl (by decide) rfl (by decide) hT (fun v1 w1 hq => ?_)
          obtain ⟨rfl, rfl⟩ := hq
          refine ⟨_, _, RW 0 (rd_next A q2) A u2 c2 kk, rfl, rfl, rfl, ?_⟩
          refine im_g 2 (y := (138, _, _, _)) rfl trivial ?_
          refine im_call [0,1,2,3,4] rfl rfl (h3 d od (rd_next A q2) A N (u2) (c2) kk (o) (j1 + 1) (l1) (.inl f) hA (hS3) (by omega) (by omega) (by omega) (by omega) q4) rfl rfl rfl (by decide) rfl (by decide) hT (fun v1 w1 hq => ?_)
          obtain ⟨rfl, q4, u4, c4, rfl, hP4⟩ := hq
          refine ⟨_, _, RW 0 q4 A u4 c4 kk, rfl, rfl, rfl, ?_⟩
          refine im_g 3 (y := (144, _, _, _)) rfl trivial ?_
          refine im_call [0,1,2,3,4] rfl rfl (c_emit (q := q4) (A := A) (u := u4) (c := c4) (k := kk) (by omega) hT hP4.2.1 (wt := 8) (x := 0) (by decide) (by decide)) rfl rfl rfl (by decide) rfl (by decide) hT (fun v1 w1 hq => ?_)
          obtain ⟨rfl, rfl⟩ := hq
          refine ⟨_, _, RW 0 q4 A (rd_emu u4) (rd_emc u4 c4 8 0) kk, rfl, rfl, rfl, ?_⟩
          refine im_g 1 (y := (148, _, _, _)) rfl trivial ?_
          rw [hres]
          have hF := RdP_TS (RdP_f (i1 := i0) (u1 := u) (c1 := c) (need1 := 3 * (8 - o) + 4) hP4 hP2.2.2.1) (TS_em (w := 8) (x := 0) hP4.2.1 (by decide) (by decide)) rfl
          cases nb with
          | false =>
            refine im_g 1 (y := (149, _, _, _)) rfl trivial ?_
            refine im_bT rfl rfl ⟨(by decide), trivial⟩ rfl ?_
            refine im_r rfl rfl trivial rfl ?_
            exact ⟨rfl, _, _, _, rfl, hF⟩
          | true =>
            refine im_g 1 (y := (149, _, _, _)) rfl trivial ?_
            refine im_bF rfl rfl ⟨(by decide), trivial⟩ (by decide) ?_
            refine im_g 3 (y := (156, _, _, _)) rfl trivial ?_
            refine im_call [0,1,2,3,4] rfl rfl (c_emit (q := q4) (A := A) (u := (rd_emu u4)) (c := (rd_emc u4 c4 8 0)) (k := kk) (by omega) hT hF.2.1 (wt := 11) (x := 0) (by decide) (by decide)) rfl rfl rfl (by decide) rfl (by decide) hT (fun v1 w1 hq => ?_)
            obtain ⟨rfl, rfl⟩ := hq
            refine ⟨_, _, RW 0 q4 A (rd_emu (rd_emu u4)) (rd_emc (rd_emu u4) (rd_emc u4 c4 8 0) 11 0) kk, rfl, rfl, rfl, ?_⟩
            refine im_g 1 (y := (160, _, _, _)) rfl trivial ?_
            refine im_r rfl rfl trivial rfl ?_
            exact ⟨rfl, _, _, _, rfl, RdP_TS hF (TS_em hF.2.1 (by decide) (by decide)) rfl⟩
        · have hj2 := dn_nt hN (by decide) hlt2 q4e
          have hres : res = .inr (j2, l2, d_op 8 m1 m2) := by cases q5; rfl
          refine im_g 1 (y := (133, _, _, _)) rfl trivial ?_
          refine im_call [0,1,2,3,4] rfl rfl (c_step (q := q2) (A := A) (u := u2) (c := c2) (k := kk) (by omega) hT hA hS2.2.1) rfl rfl rfl (by decide) rfl (by decide) hT (fun v1 w1 hq => ?_)
          obtain ⟨rfl, rfl⟩ := hq
          refine ⟨_, _, RW 0 (rd_next A q2) A u2 c2 kk, rfl, rfl, rfl, ?_⟩
          refine im_g 2 (y := (138, _, _, _)) rfl trivial ?_
          refine im_call [0,1,2,3,4] rfl rfl (h3 d od (rd_next A q2) A N (u2) (c2) kk (o) (j1 + 1) (l1) (.inr (j2, l2, m2)) hA (hS3) (by omega) (by omega) (by omega) (by omega) q4e) rfl rfl rfl (by decide) rfl (by decide) hT (fun v1 w1 hq => ?_)
          obtain ⟨rfl, q4, u4, c4, rfl, hP4⟩ := hq
          refine ⟨_, _, RW 0 q4 A u4 c4 kk, rfl, rfl, rfl, ?_⟩
          refine im_g 3 (y := (144, _, _, _)) rfl trivial ?_
          refine im_call [0,1,2,3,4] rfl rfl (c_emit (q := q4) (A := A) (u := u4) (c := c4) (k := kk) (by omega) hT hP4.2.1 (wt := 8) (x := 0) (by decide) (by decide)) rfl rfl rfl (by decide) rfl (by decide) hT (fun v1 w1 hq => ?_)
          obtain ⟨rfl, rfl⟩ := hq
          refine ⟨_, _, RW 0 q4 A (rd_emu u4) (rd_emc u4 c4 8 0) kk, rfl, rfl, rfl, ?_⟩
          refine im_g 1 (y := (148, _, _, _)) rfl trivial ?_
          have hsz : (rd_emu u4).1 + i ≤ u.1 + j2 := by
            have t1 := hP2.2.2.2.2.1.2
            have t2 := hP4.2.2.2.2.1.2
            have t3 : (rd_emu u4).1 ≤ u4.1 + 1 := by unfold rd_emu; dsimp only; split <;> omega
            omega
          rw [hres]
          have hF := RdP_base (i1 := i0) (RdP_more (need' := 3 * (8 - o) + 4) (RdP_op (w := 8) (a_ := tk_nt A N) (RdP_more (need' := 3 * (8 - o) + 4) hP2 (by omega)) hP4 (by omega) hj2.2 (by omega) (by decide) (by omega)) (Int.le_refl _)) hi0.1
          cases nb with
          | false =>
            refine im_g 1 (y := (149, _, _, _)) rfl trivial ?_
            refine im_bT rfl rfl ⟨(by decide), trivial⟩ rfl ?_
            refine im_r rfl rfl trivial rfl ?_
            exact ⟨rfl, _, _, _, rfl, hF⟩
          | true =>
            refine im_g 1 (y := (149, _, _, _)) rfl trivial ?_
            refine im_bF rfl rfl ⟨(by decide), trivial⟩ (by decide) ?_
            refine im_g 3 (y := (156, _, _, _)) rfl trivial ?_
            refine im_call [0,1,2,3,4] rfl rfl (c_emit (q := q4) (A := A) (u := (rd_emu u4)) (c := (rd_emc u4 c4 8 0)) (k := kk) (by omega) hT hF.2.1 (wt := 11) (x := 0) (by decide) (by decide)) rfl rfl rfl (by decide) rfl (by decide) hT (fun v1 w1 hq => ?_)
            obtain ⟨rfl, rfl⟩ := hq
            refine ⟨_, _, RW 0 q4 A (rd_emu (rd_emu u4)) (rd_emc (rd_emu u4) (rd_emc u4 c4 8 0) 11 0) kk, rfl, rfl, rfl, ?_⟩
            refine im_g 1 (y := (160, _, _, _)) rfl trivial ?_
            refine im_r rfl rfl trivial rfl ?_
            exact ⟨rfl, _, _, _, rfl, RdP_not (a_ := tk_nt A N) hF hroom (by omega) (by have t1 := hi0.2 rfl; have t2 := hsz; omega)⟩
  · have c46 : tk_C A N i = 100 + 40 := by
      by_cases hh : tk_C A N i = 100 + 40
      · exact hh
      · rw [if_neg hh] at br1; exact absurd rfl br1
    clear br1
    replace c46 : tk_C A N i = 140 := c46
    rw [dn_6, if_pos c46] at hdn
    have hlt := tk_lt (A := A) hN (i := i) (by omega)
    by_cases ho8 : o = 8
    · rw [if_pos ho8] at hdn
      have hres : res = .inl i := by cases hdn; rfl
      refine im_g 2 (y := (51, _, _, _)) rfl trivial ?_
      refine im_call [0,1,2,3,4] rfl rfl (c_enterN (q := q) (A := A) (u := u) (c := c) (k := kk) (by omega) hT h.2.1 ho8) rfl rfl rfl (by decide) rfl (by decide) hT (fun v1 w1 hq => ?_)
      obtain ⟨rfl, rfl⟩ := hq
      refine ⟨_, _, RW 0 (rd_fail q) A u c kk, rfl, rfl, rfl, ?_⟩
      refine im_bT rfl rfl ⟨(by omega), trivial⟩ rfl ?_
      rw [hres]
      have hF := RdS_fail (need := 3 * (8 - o) + 4) (i0 := i0) (u0 := u) (c0 := c) h rfl
      cases nb with
      | false =>
        refine im_g 1 (y := (149, _, _, _)) rfl trivial ?_
        refine im_bT rfl rfl ⟨(by decide), trivial⟩ rfl ?_
        refine im_r rfl rfl trivial rfl ?_
        exact ⟨rfl, _, _, _, rfl, hF⟩
      | true =>
        refine im_g 1 (y := (149, _, _, _)) rfl trivial ?_
        refine im_bF rfl rfl ⟨(by decide), trivial⟩ (by decide) ?_
        refine im_g 3 (y := (156, _, _, _)) rfl trivial ?_
        refine im_call [0,1,2,3,4] rfl rfl (c_emit (q := (rd_fail q)) (A := A) (u := u) (c := c) (k := kk) (by omega) hT hF.2.1 (wt := 11) (x := 0) (by decide) (by decide)) rfl rfl rfl (by decide) rfl (by decide) hT (fun v1 w1 hq => ?_)
        obtain ⟨rfl, rfl⟩ := hq
        refine ⟨_, _, RW 0 (rd_fail q) A (rd_emu u) (rd_emc u c 11 0) kk, rfl, rfl, rfl, ?_⟩
        refine im_g 1 (y := (160, _, _, _)) rfl trivial ?_
        refine im_r rfl rfl trivial rfl ?_
        exact ⟨rfl, _, _, _, rfl, RdP_TS hF (TS_em hF.2.1 (by decide) (by decide)) rfl⟩
    · rw [if_neg ho8] at hdn
      have hS1 := RdS_next h
      refine im_g 2 (y := (51, _, _, _)) rfl trivial ?_
      refine im_call [0,1,2,3,4] rfl rfl (c_enterY (q := q) (A := A) (u := u) (c := c) (k := kk) (by omega) hT hA h.2.1 (by omega)) rfl rfl rfl (by decide) rfl (by decide) hT (fun v1 w1 hq => ?_)
      obtain ⟨rfl, rfl⟩ := hq
      refine ⟨_, _, RW 0 (rd_next A q) A u c kk, rfl, rfl, rfl, ?_⟩
      refine im_bF rfl rfl ⟨(by omega), trivial⟩ (by decide) ?_
      refine im_g 4 (y := (61, _, _, _)) rfl trivial ?_
      rcases d_bind_s hdn with ⟨f, q1, hres⟩ | ⟨j1, l1, m1, q1, q3⟩
      · refine im_call [0,1,2,3,4] rfl rfl (h9 d od (rd_next A q) A N (u) (c) kk (o + 1) (i + 1) (l) (.inl f) hA (hS1) (by omega) (by omega) (by omega) (by omega) q1) rfl rfl rfl (by decide) rfl (by decide) hT (fun v1 w1 hq => ?_)
        obtain ⟨rfl, q2, u2, c2, rfl, hP2⟩ := hq
        refine ⟨_, _, RW 0 q2 A u2 c2 kk, rfl, rfl, rfl, ?_⟩
        refine im_g 2 (y := (67, _, _, _)) rfl trivial ?_
        refine im_call [0,1,2,3,4] rfl rfl (c_closeD (q := q2) (A := A) (u := u2) (c := c2) (k := kk) (by omega) hT (RdP_D hP2) (b := 41)) rfl rfl rfl (by decide) rfl (by decide) hT (fun v1 w1 hq => ?_)
        obtain ⟨rfl, rfl⟩ := hq
        refine ⟨_, _, RW 0 q2 A u2 c2 kk, rfl, rfl, rfl, ?_⟩
        refine im_g 1 (y := (148, _, _, _)) rfl trivial ?_
        rw [hres]
        have hF := RdP_f (i1 := i0) (u1 := u) (c1 := c) (need1 := 3 * (8 - o) + 4) hP2 rfl
        cases nb with
        | false =>
          refine im_g 1 (y := (149, _, _, _)) rfl trivial ?_
          refine im_bT rfl rfl ⟨(by decide), trivial⟩ rfl ?_
          refine im_r rfl rfl trivial rfl ?_
          exact ⟨rfl, _, _, _, rfl, hF⟩
        | true =>
          refine im_g 1 (y := (149, _, _, _)) rfl trivial ?_
          refine im_bF rfl rfl ⟨(by decide), trivial⟩ (by decide) ?_
          refine im_g 3 (y := (156, _, _, _)) rfl trivial ?_
          refine im_call [0,1,2,3,4] rfl rfl (c_emit (q := q2) (A := A) (u := u2) (c := c2) (k := kk) (by omega) hT hF.2.1 (wt := 11) (x := 0) (by decide) (by decide)) rfl rfl rfl (by decide) rfl (by decide) hT (fun v1 w1 hq => ?_)
          obtain ⟨rfl, rfl⟩ := hq
          refine ⟨_, _, RW 0 q2 A (rd_emu u2) (rd_emc u2 c2 11 0) kk, rfl, rfl, rfl, ?_⟩
          refine im_g 1 (y := (160, _, _, _)) rfl trivial ?_
          refine im_r rfl rfl trivial rfl ?_
          exact ⟨rfl, _, _, _, rfl, RdP_TS hF (TS_em hF.2.1 (by decide) (by decide)) rfl⟩
      · have hj1 := dn_nt hN (by decide) (by omega) q1
        refine im_call [0,1,2,3,4] rfl rfl (h9 d od (rd_next A q) A N (u) (c) kk (o + 1) (i + 1) (l) (.inr (j1, l1, m1)) hA (hS1) (by omega) (by omega) (by omega) (by omega) q1) rfl rfl rfl (by decide) rfl (by decide) hT (fun v1 w1 hq => ?_)
        obtain ⟨rfl, q2, u2, c2, rfl, hP2⟩ := hq
        refine ⟨_, _, RW 0 q2 A u2 c2 kk, rfl, rfl, rfl, ?_⟩
        refine im_g 2 (y := (67, _, _, _)) rfl trivial ?_
        refine im_call [0,1,2,3,4] rfl rfl (c_close (q := q2) (u := u2) (c := c2) (k := kk) (by omega) hT hA (RdP_S hP2) (b := 41) (by decide)) rfl rfl rfl (by decide) rfl (by decide) hT (fun v1 w1 hq => ?_)
        obtain ⟨rfl, rfl⟩ := hq
        refine ⟨_, _, RW 0 (if tk_C A N j1 = 100 + 41 then rd_next A q2 else rd_fail q2) A u2 c2 kk, rfl, rfl, rfl, ?_⟩
        by_cases hcl : tk_C A N j1 = 100 + 41
        · rw [if_pos hcl]
          rw [if_pos (show tk_C A N j1 = 141 from hcl)] at q3
          refine im_g 1 (y := (148, _, _, _)) rfl trivial ?_
          have hres : res = .inr (j1 + 1, l1, m1) := by cases q3; rfl
          have hlt2 := tk_lt (A := A) hN (i := j1) (by omega)
          have hsz : u2.1 + (i + 1) ≤ u.1 + j1 := hP2.2.2.2.2.1.2
          rw [hres]
          have hF := RdP_base (i1 := i0) (RdP_more (need' := 3 * (8 - o) + 4) (RdP_next hP2) (by omega)) (by omega)
          cases nb with
          | false =>
            refine im_g 1 (y := (149, _, _, _)) rfl trivial ?_
            refine im_bT rfl rfl ⟨(by decide), trivial⟩ rfl ?_
            refine im_r rfl rfl trivial rfl ?_
            exact ⟨rfl, _, _, _, rfl, hF⟩
          | true =>
            refine im_g 1 (y := (149, _, _, _)) rfl trivial ?_
            refine im_bF rfl rfl ⟨(by decide), trivial⟩ (by decide) ?_
            refine im_g 3 (y := (156, _, _, _)) rfl trivial ?_
            refine im_call [0,1,2,3,4] rfl rfl (c_emit (q := (rd_next A q2)) (A := A) (u := u2) (c := c2) (k := kk) (by omega) hT hF.2.1 (wt := 11) (x := 0) (by decide) (by decide)) rfl rfl rfl (by decide) rfl (by decide) hT (fun v1 w1 hq => ?_)
            obtain ⟨rfl, rfl⟩ := hq
            refine ⟨_, _, RW 0 (rd_next A q2) A (rd_emu u2) (rd_emc u2 c2 11 0) kk, rfl, rfl, rfl, ?_⟩
            refine im_g 1 (y := (160, _, _, _)) rfl trivial ?_
            refine im_r rfl rfl trivial rfl ?_
            exact ⟨rfl, _, _, _, rfl, RdP_not (a_ := tk_nt A N) hF hroom (by omega) (by have t1 := hi0.2 rfl; have t2 := hsz; omega)⟩
        · rw [if_neg hcl]
          rw [if_neg (show ¬ tk_C A N j1 = 141 from hcl)] at q3
          refine im_g 1 (y := (148, _, _, _)) rfl trivial ?_
          have hres : res = .inl j1 := by cases q3; rfl
          rw [hres]
          have hF := RdP_f (i1 := i0) (u1 := u) (c1 := c) (need1 := 3 * (8 - o) + 4) (RdP_fail hP2) rfl
          cases nb with
          | false =>
            refine im_g 1 (y := (149, _, _, _)) rfl trivial ?_
            refine im_bT rfl rfl ⟨(by decide), trivial⟩ rfl ?_
            refine im_r rfl rfl trivial rfl ?_
            exact ⟨rfl, _, _, _, rfl, hF⟩
          | true =>
            refine im_g 1 (y := (149, _, _, _)) rfl trivial ?_
            refine im_bF rfl rfl ⟨(by decide), trivial⟩ (by decide) ?_
            refine im_g 3 (y := (156, _, _, _)) rfl trivial ?_
            refine im_call [0,1,2,3,4] rfl rfl (c_emit (q := (rd_fail q2)) (A := A) (u := u2) (c := c2) (k := kk) (by omega) hT hF.2.1 (wt := 11) (x := 0) (by decide) (by decide)) rfl rfl rfl (by decide) rfl (by decide) hT (fun v1 w1 hq => ?_)
            obtain ⟨rfl, rfl⟩ := hq
            refine ⟨_, _, RW 0 (rd_fail q2) A (rd_emu u2) (rd_emc u2 c2 11 0) kk, rfl, rfl, rfl, ?_⟩
            refine im_g 1 (y := (160, _, _, _)) rfl trivial ?_
            refine im_r rfl rfl trivial rfl ?_
            exact ⟨rfl, _, _, _, rfl, RdP_TS hF (TS_em hF.2.1 (by decide) (by decide)) rfl⟩
set_option maxHeartbeats 8000000 in
theorem rd_5 (hT : T.length < 1000) {n : Nat} (h6 : Rd6 ro T n) : RdM ro T (n + 1) 5 51 7 4 := by
  intro d od q A N u c kk o i l res hA h ho hd hnt hroom hdn
  obtain ⟨d, rfl⟩ : ∃ e, d = e + 1 := ⟨d - 1, by omega⟩
  have hN := RdS_N h
  have hTS := h.2.2
  have hu1 := hTS.1
  have htn := (tk_nt_b (A := A) hN).1
  have h0i : 0 ≤ i := h.2.1.2.1
  rw [dn_5] at hdn
  generalize hns : d_nots (tk_C A N) 401 i false = ns at hdn
  obtain ⟨i1, nb⟩ := ns
  dsimp only at hdn
  have hrr : ∃ r6, dn od (tk_C A N) (tk_X A N) n 6 o i1 l d_0 = some r6 ∧ res = d_ntR nb r6 := by
    rcases d_bind_s hdn with ⟨f, q1, hres⟩ | ⟨j1, l1, m1, q1, q3⟩
    · exact ⟨_, q1, hres⟩
    · exact ⟨_, q1, by cases q3; rfl⟩
  obtain ⟨r6, hr6, rfl⟩ := hrr
  have key : ∀ (k : Nat) (i2 : Int) (nb2 : Bool) (ci : Int) (q2 : Nat → Int), RdS od A N i2 l u c q2 → i ≤ i2 → i2 ≤ tk_nt A N → (nb2 = true → i < i2) → (0 ≤ ci ∧ ci ≤ i2) → i2 + k > 400 → d_nots (tk_C A N) k i2 nb2 = (i1, nb) → im_wp ro (ab_Ev ro ab_codes d) 5 none ab_k_X5_readPlain 5 T (fun r w => r = none ∧ ∃ q' u' c', w = RW 0 q' A u' c' kk ∧ RdP od A N i u c (3 * (8 - o) + 4) (d_ntR nb r6) q' u' c') (4, [some (mr 0), some (.inl o), some (.inl (e_bi nb2)), some (.inl ci)], [], RW 0 q2 A u c kk) := by
    intro k
    induction k with
    | zero => intro i2 nb2 ci q2 g1 g2 g3; omega
    | succ k ih =>
      intro i2 nb2 ci q2 hS hi2 hn2 hnb hci hk he
      unfold d_nots at he
      have hCe := @tk_C_end A N hN
      refine im_g 2 (y := (8, _, _, _)) rfl trivial ?_
      refine im_b rfl rfl ⟨(by omega), (by omega), trivial⟩ (fun br1 => ?_) (fun br1 => ?_)
      · have hC0 := hCe i2 (by omega)
        rw [if_neg (by omega)] at he
        obtain ⟨rfl, rfl⟩ : i2 = i1 ∧ nb2 = nb := by cases he; exact ⟨rfl, rfl⟩
        exact h6 d od q2 A N u c kk o i2 i l r6 nb2 _ hA hS ho (by omega) hn2 hroom ⟨hi2, hnb⟩ hr6
      · refine im_g 2 (y := (14, _, _, _)) rfl trivial ?_
        refine im_call [0,1,2,3,4] rfl rfl (w_is_not (q := q2) (u := u) (c := c) (k := kk) (by omega) hT hA hS) rfl rfl rfl (by decide) rfl (by decide) hT (fun v1 w1 hq => ?_)
        obtain ⟨rfl, rfl⟩ := hq
        refine ⟨_, _, RW 0 q2 A u c kk, rfl, rfl, rfl, ?_⟩
        refine im_b rfl rfl ⟨(by omega), trivial⟩ (fun br2 => ?_) (fun br2 => ?_)
        · have c17 : ¬ (tk_C A N i2 = 8) := by
            intro hh
            rw [if_pos hh] at br2
            exact absurd br2 (by decide)
          clear br2
          rw [if_neg (by omega)] at he
          obtain ⟨rfl, rfl⟩ : i2 = i1 ∧ nb2 = nb := by cases he; exact ⟨rfl, rfl⟩
          exact h6 d od q2 A N u c kk o i2 i l r6 nb2 _ hA hS ho (by omega) hn2 hroom ⟨hi2, hnb⟩ hr6
        · have c17 : tk_C A N i2 = 8 := by
            by_cases hh : tk_C A N i2 = 8
            · exact hh
            · rw [if_neg hh] at br2; exact absurd rfl br2
          clear br2
          refine im_g 1 (y := (21, _, _, _)) rfl trivial ?_
          refine im_b rfl rfl ⟨(by cases nb2 <;> decide), trivial⟩ (fun br3 => ?_) (fun br3 => ?_)
          · refine im_g 3 (y := (31, _, _, _)) rfl trivial ?_
            refine im_call [0,1,2,3,4] rfl rfl (c_step (q := q2) (A := A) (u := u) (c := c) (k := kk) (by omega) hT hA hS.2.1) rfl rfl rfl (by decide) rfl (by decide) hT (fun v1 w1 hq => ?_)
            obtain ⟨rfl, rfl⟩ := hq
            refine ⟨_, _, RW 0 (rd_next A q2) A u c kk, rfl, rfl, rfl, ?_⟩
            refine im_g 2 (y := (4, _, _, _)) rfl trivial ?_
            rw [if_pos c17] at he
            have hlt := tk_lt (A := A) hN (i := i2) (by omega)
            have t := ih (i2 + 1) (!nb2) (ci + 1) _ (RdS_next hS) (by omega) hlt (fun _ => by omega) (by omega) (by omega) he
            have tb : nb2 = true := by
              have tt := br3
              cases nb2
              · exact absurd rfl tt
              · rfl
            rw [tb] at t
            exact t
          · refine im_g 4 (y := (31, _, _, _)) rfl trivial ?_
            refine im_call [0,1,2,3,4] rfl rfl (c_step (q := q2) (A := A) (u := u) (c := c) (k := kk) (by omega) hT hA hS.2.1) rfl rfl rfl (by decide) rfl (by decide) hT (fun v1 w1 hq => ?_)
            obtain ⟨rfl, rfl⟩ := hq
            refine ⟨_, _, RW 0 (rd_next A q2) A u c kk, rfl, rfl, rfl, ?_⟩
            refine im_g 2 (y := (4, _, _, _)) rfl trivial ?_
            rw [if_pos c17] at he
            have hlt := tk_lt (A := A) hN (i := i2) (by omega)
            have t := ih (i2 + 1) (!nb2) (ci + 1) _ (RdS_next hS) (by omega) hlt (fun _ => by omega) (by omega) (by omega) he
            have tb : nb2 = false := by
              have tt := br3
              cases nb2
              · rfl
              · exact absurd (show (1 : Int) = 0 from Classical.not_not.mp tt) (by decide)
            rw [tb] at t
            exact t
  refine im_ct_of (own := 5) (ret := none) (code := ab_k_X5_readPlain) (nL := 4) (L0 := [some (mr 0), some (.inl o), none, none]) (n := 5) rfl rfl rfl rfl rfl rfl rfl rfl rfl ?_
  refine im_g 4 (y := (4, _, _, _)) rfl trivial ?_
  exact key 401 i false 0 q h (Int.le_refl _) hnt (fun t => nomatch t) (by omega) (by omega) hns
theorem rd_all (hT : T.length < 1000) : ∀ n : Nat, (RdM ro T n 0 54 4 1) ∧ (RdM ro T n 1 53 5 2) ∧ (RdM ro T n 3 52 6 3) ∧ (RdM ro T n 5 51 7 4) ∧ (RdM ro T n 7 50 8 4) ∧ (RdM ro T n 9 49 9 4) ∧ (Rd6 ro T n) ∧ (RdR ro T n 2 ab_k_X5_readTerm 4 2) ∧ (RdR ro T n 4 ab_k_X5_readSum 5 3) ∧ (RdR ro T n 8 ab_k_X5_readBoth 7 4) ∧ (RdR ro T n 10 ab_k_X5_readTest 8 4)
  | 0 => ⟨(fun _ _ _ _ _ _ _ _ _ _ _ _ _ _ _ _ _ _ h => nomatch h), (fun _ _ _ _ _ _ _ _ _ _ _ _ _ _ _ _ _ _ h => nomatch h), (fun _ _ _ _ _ _ _ _ _ _ _ _ _ _ _ _ _ _ h => nomatch h), (fun _ _ _ _ _ _ _ _ _ _ _ _ _ _ _ _ _ _ h => nomatch h), (fun _ _ _ _ _ _ _ _ _ _ _ _ _ _ _ _ _ _ h => nomatch h), (fun _ _ _ _ _ _ _ _ _ _ _ _ _ _ _ _ _ _ h => nomatch h), (fun _ _ _ _ _ _ _ _ _ _ _ _ _ _ _ _ _ _ _ _ _ _ h => nomatch h), (fun _ _ _ _ _ _ _ _ _ _ _ _ _ _ _ _ _ _ _ _ _ _ _ _ _ _ h => nomatch h), (fun _ _ _ _ _ _ _ _ _ _ _ _ _ _ _ _ _ _ _ _ _ _ _ _ _ _ h => nomatch h), (fun _ _ _ _ _ _ _ _ _ _ _ _ _ _ _ _ _ _ _ _ _ _ _ _ _ _ h => nomatch h), (fun _ _ _ _ _ _ _ _ _ _ _ _ _ _ _ _ _ _ _ _ _ _ _ _ _ _ h => nomatch h)⟩
  | n + 1 => by
    obtain ⟨h0, h1, h3, h5, h7, h9, h6, r2, r4, r8, r10⟩ := rd_all hT n
    exact ⟨rd_0 hT h3, rd_1 hT h0 r2, rd_3 hT h1 r4, rd_5 hT h6, rd_7 hT h5 r8, rd_9 hT h7 r10, rd_6 hT h3 h9, rd_R2 hT h0 r2, rd_R4 hT h1 r4, rd_R8 hT h5 r8, rd_R10 hT h7 r10⟩
end Rf
