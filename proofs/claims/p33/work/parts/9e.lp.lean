/-! the law: its loop -/
def lQ (m : Nat) (o : ab_O) : Prop := o.1 = some (.int 1) ∧ o.2.2.1 ≤ 3 * m ∧ o.2.2.2 ≤ 501 * m
theorem lQ_up {m : Nat} {v : Option Value} {w : ab_W} {m0 s0 mc ms : Nat} (h1 : m0 ≤ 3) (h2 : s0 ≤ 501) (h : lQ m (v, w, mc, ms)) : lQ (m + 1) (v, w, m0 + mc, s0 + ms) := by
  obtain ⟨q1, q2, q3⟩ := h
  dsimp only at q1 q2 q3
  exact ⟨q1, by dsimp only; omega, by dsimp only; omega⟩
set_option maxHeartbeats 4000000 in
theorem l_sel {n m : Nat} {xs : Nat → Int32} {G : Nat → Nat} {w : ab_W} {i z : Int32} (hn : n ≤ 3072) (h0 : 0 ≤ i.toInt) (h6 : i.toInt + 6 ≤ n) (hGE : GE G) (h : LI G w) (hlw : w.length + 3 < 10000) (K2 : ∀ G' w1, GE G' → LI G' w1 → w1.length ≤ w.length + 3 → lwq n xs (lQ m) (1063, [some (.ref 1000000), some (.ref 0), some (.ref 95), some (.int i)], [], w1, 0, 0)) : lwq n xs (lQ (m + 1)) (33, [some (.ref 1000000), some (.ref 0), some (.ref 95), some (.int i)], [.int z], w, 0, 0) := by
  have hQ : ∀ v w1 m0 s0 mc ms, m0 ≤ 3 → s0 ≤ 501 → lQ m (v, w1, mc, ms) → lQ (m + 1) (v, w1, m0 + mc, s0 + ms) := fun v w1 m0 s0 mc ms h1 h2 hq => lQ_up h1 h2 hq
  have K1 : ∀ w1, LI G w1 → w1.length = w.length → lwq n xs (lQ (m + 1)) (1063, [some (.ref 1000000), some (.ref 0), some (.ref 95), some (.int i)], [], w1, 0, 0) := fun w1 h1 hl => ax_shift (Q0 := lQ m) (a := 0) (b := 0) (K2 G w1 hGE h1 (by omega)) (fun v w2 mc ms hq => lQ_up (by decide) (by decide) hq)
  by_cases e0 : z = 0
  · subst e0
    exact ax_sw 188 rfl rfl rfl ⟨Or.inr ⟨_, rfl, by decide⟩, by decide, trivial⟩ (lc_0 hn h0 (by omega) hGE h K1)
  by_cases e1 : z = 1
  · subst e1
    exact ax_sw 221 rfl rfl rfl ⟨Or.inr ⟨_, rfl, by decide⟩, by decide, trivial⟩ (lc_1 hn h0 (by omega) hGE h K1)
  by_cases e2 : z = 2
  · subst e2
    exact ax_sw 254 rfl rfl rfl ⟨Or.inr ⟨_, rfl, by decide⟩, by decide, trivial⟩ (lc_2 hn h0 (by omega) hGE h K1)
  by_cases e3 : z = 3
  · subst e3
    exact ax_sw 287 rfl rfl rfl ⟨Or.inr ⟨_, rfl, by decide⟩, by decide, trivial⟩ (lc_3 hn h0 (by omega) hGE h K1)
  by_cases e4 : z = 4
  · subst e4
    exact ax_sw 320 rfl rfl rfl ⟨Or.inr ⟨_, rfl, by decide⟩, by decide, trivial⟩ (lc_4 hn h0 (by omega) hGE h K1)
  by_cases e5 : z = 5
  · subst e5
    exact ax_sw 383 rfl rfl rfl ⟨Or.inr ⟨_, rfl, by decide⟩, by decide, trivial⟩ (lc_5 hn h0 (by omega) hGE h K1)
  by_cases e6 : z = 6
  · subst e6
    exact ax_sw 406 rfl rfl rfl ⟨Or.inr ⟨_, rfl, by decide⟩, by decide, trivial⟩ (lc_6 hn h0 (by omega) hGE h K1)
  by_cases e7 : z = 7
  · subst e7
    exact ax_sw 419 rfl rfl rfl ⟨Or.inr ⟨_, rfl, by decide⟩, by decide, trivial⟩ (lc_7 hn h0 (by omega) hGE h K1)
  by_cases e8 : z = 8
  · subst e8
    exact ax_sw 432 rfl rfl rfl ⟨Or.inr ⟨_, rfl, by decide⟩, by decide, trivial⟩ (lc_8 hn hGE h (by omega) K2 hQ)
  by_cases e9 : z = 9
  · subst e9
    exact ax_sw 445 rfl rfl rfl ⟨Or.inr ⟨_, rfl, by decide⟩, by decide, trivial⟩ (lc_9 hn h0 (by omega) hGE h K1)
  by_cases e10 : z = 10
  · subst e10
    exact ax_sw 458 rfl rfl rfl ⟨Or.inr ⟨_, rfl, by decide⟩, by decide, trivial⟩ (lc_10 hn h0 (by omega) hGE h K1)
  by_cases e11 : z = 11
  · subst e11
    exact ax_sw 471 rfl rfl rfl ⟨Or.inr ⟨_, rfl, by decide⟩, by decide, trivial⟩ (lc_11 hn h0 (by omega) hGE h K1)
  by_cases e12 : z = 12
  · subst e12
    exact ax_sw 484 rfl rfl rfl ⟨Or.inr ⟨_, rfl, by decide⟩, by decide, trivial⟩ (lc_12 hn h0 (by omega) hGE h K1)
  by_cases e13 : z = 13
  · subst e13
    exact ax_sw 507 rfl rfl rfl ⟨Or.inr ⟨_, rfl, by decide⟩, by decide, trivial⟩ (lc_13 hn h0 (by omega) hGE h K1)
  by_cases e14 : z = 14
  · subst e14
    exact ax_sw 530 rfl rfl rfl ⟨Or.inr ⟨_, rfl, by decide⟩, by decide, trivial⟩ (lc_14 hn h0 (by omega) hGE h K1)
  by_cases e15 : z = 15
  · subst e15
    exact ax_sw 543 rfl rfl rfl ⟨Or.inr ⟨_, rfl, by decide⟩, by decide, trivial⟩ (lc_15 hn h0 (by omega) hGE h K1)
  by_cases e16 : z = 16
  · subst e16
    exact ax_sw 586 rfl rfl rfl ⟨Or.inr ⟨_, rfl, by decide⟩, by decide, trivial⟩ (lc_16 hn h0 (by omega) hGE h K1)
  by_cases e17 : z = 17
  · subst e17
    exact ax_sw 619 rfl rfl rfl ⟨Or.inr ⟨_, rfl, by decide⟩, by decide, trivial⟩ (lc_17 hn h0 (by omega) hGE h K1)
  by_cases e18 : z = 18
  · subst e18
    exact ax_sw 632 rfl rfl rfl ⟨Or.inr ⟨_, rfl, by decide⟩, by decide, trivial⟩ (lc_18 hn h0 (by omega) hGE h K1)
  by_cases e19 : z = 19
  · subst e19
    exact ax_sw 655 rfl rfl rfl ⟨Or.inr ⟨_, rfl, by decide⟩, by decide, trivial⟩ (lc_19 hn h0 (by omega) hGE h K1)
  by_cases e20 : z = 20
  · subst e20
    exact ax_sw 678 rfl rfl rfl ⟨Or.inr ⟨_, rfl, by decide⟩, by decide, trivial⟩ (lc_20 hn h0 (by omega) hGE h K1)
  by_cases e21 : z = 21
  · subst e21
    exact ax_sw 701 rfl rfl rfl ⟨Or.inr ⟨_, rfl, by decide⟩, by decide, trivial⟩ (lc_21 hn h0 (by omega) hGE h K1)
  by_cases e22 : z = 22
  · subst e22
    exact ax_sw 744 rfl rfl rfl ⟨Or.inr ⟨_, rfl, by decide⟩, by decide, trivial⟩ (lc_22 hn h0 (by omega) hGE h K1)
  by_cases e23 : z = 23
  · subst e23
    exact ax_sw 767 rfl rfl rfl ⟨Or.inr ⟨_, rfl, by decide⟩, by decide, trivial⟩ (lc_23 hn h0 (by omega) hGE h K1)
  by_cases e24 : z = 24
  · subst e24
    exact ax_sw 800 rfl rfl rfl ⟨Or.inr ⟨_, rfl, by decide⟩, by decide, trivial⟩ (lc_24 hn h0 (by omega) hGE h K1)
  by_cases e25 : z = 25
  · subst e25
    exact ax_sw 813 rfl rfl rfl ⟨Or.inr ⟨_, rfl, by decide⟩, by decide, trivial⟩ (lc_25 hn h0 (by omega) hGE h K1)
  by_cases e26 : z = 26
  · subst e26
    exact ax_sw 836 rfl rfl rfl ⟨Or.inr ⟨_, rfl, by decide⟩, by decide, trivial⟩ (lc_26 hn h0 (by omega) hGE h K1)
  by_cases e27 : z = 27
  · subst e27
    exact ax_sw 859 rfl rfl rfl ⟨Or.inr ⟨_, rfl, by decide⟩, by decide, trivial⟩ (lc_27 hn h0 (by omega) hGE h K1)
  by_cases e28 : z = 28
  · subst e28
    exact ax_sw 882 rfl rfl rfl ⟨Or.inr ⟨_, rfl, by decide⟩, by decide, trivial⟩ (lc_28 hn h0 (by omega) hGE h K1)
  by_cases e29 : z = 29
  · subst e29
    exact ax_sw 915 rfl rfl rfl ⟨Or.inr ⟨_, rfl, by decide⟩, by decide, trivial⟩ (lc_29 hn h0 (by omega) hGE h K1)
  by_cases e30 : z = 30
  · subst e30
    exact ax_sw 948 rfl rfl rfl ⟨Or.inr ⟨_, rfl, by decide⟩, by decide, trivial⟩ (lc_30 hn h0 (by omega) hGE h K1)
  by_cases e31 : z = 31
  · subst e31
    exact ax_sw 981 rfl rfl rfl ⟨Or.inr ⟨_, rfl, by decide⟩, by decide, trivial⟩ (lc_31 hn h0 (by omega) hGE h K1)
  by_cases e32 : z = 32
  · subst e32
    exact ax_sw 1004 rfl rfl rfl ⟨Or.inr ⟨_, rfl, by decide⟩, by decide, trivial⟩ (lc_32 hn h0 (by omega) hGE h K1)
  by_cases e33 : z = 33
  · subst e33
    exact ax_sw 1027 rfl rfl rfl ⟨Or.inr ⟨_, rfl, by decide⟩, by decide, trivial⟩ (lc_33 hn h0 (by omega) hGE h K1)
  by_cases e34 : z = 34
  · subst e34
    exact ax_sw 1050 rfl rfl rfl ⟨Or.inr ⟨_, rfl, by decide⟩, by decide, trivial⟩ (lc_34 hn h0 (by omega) hGE h K1)
  have hout : z.toInt < 0 ∨ 34 < z.toInt := by
    simp only [← Int32.toInt_inj, show (0 : Int32).toInt = 0 from by decide, show (1 : Int32).toInt = 1 from by decide, show (2 : Int32).toInt = 2 from by decide, show (3 : Int32).toInt = 3 from by decide, show (4 : Int32).toInt = 4 from by decide, show (5 : Int32).toInt = 5 from by decide, show (6 : Int32).toInt = 6 from by decide, show (7 : Int32).toInt = 7 from by decide, show (8 : Int32).toInt = 8 from by decide, show (9 : Int32).toInt = 9 from by decide, show (10 : Int32).toInt = 10 from by decide, show (11 : Int32).toInt = 11 from by decide, show (12 : Int32).toInt = 12 from by decide, show (13 : Int32).toInt = 13 from by decide, show (14 : Int32).toInt = 14 from by decide, show (15 : Int32).toInt = 15 from by decide, show (16 : Int32).toInt = 16 from by decide, show (17 : Int32).toInt = 17 from by decide, show (18 : Int32).toInt = 18 from by decide, show (19 : Int32).toInt = 19 from by decide, show (20 : Int32).toInt = 20 from by decide, show (21 : Int32).toInt = 21 from by decide, show (22 : Int32).toInt = 22 from by decide, show (23 : Int32).toInt = 23 from by decide, show (24 : Int32).toInt = 24 from by decide, show (25 : Int32).toInt = 25 from by decide, show (26 : Int32).toInt = 26 from by decide, show (27 : Int32).toInt = 27 from by decide, show (28 : Int32).toInt = 28 from by decide, show (29 : Int32).toInt = 29 from by decide, show (30 : Int32).toInt = 30 from by decide, show (31 : Int32).toInt = 31 from by decide, show (32 : Int32).toInt = 32 from by decide, show (33 : Int32).toInt = 33 from by decide, show (34 : Int32).toInt = 34 from by decide] at e0 e1 e2 e3 e4 e5 e6 e7 e8 e9 e10 e11 e12 e13 e14 e15 e16 e17 e18 e19 e20 e21 e22 e23 e24 e25 e26 e27 e28 e29 e30 e31 e32 e33 e34
    omega
  exact ax_sw 1063 rfl rfl (ab_ts_out hout) ⟨Or.inl hout, by decide, trivial⟩ (K1 w h rfl)
theorem l_loop {n : Nat} {xs : Nat → Int32} (hn : n ≤ 3072) : ∀ (m : Nat) (G : Nat → Nat) (w : ab_W) (i : Int32), GE G → LI G w → w.length + 3 * m < 9990 → 0 ≤ i.toInt → i.toInt ≤ 3072 → (n : Int) < i.toInt + 6 * m + 6 → lwq n xs (lQ m) (18, [some (.ref 1000000), some (.ref 0), some (.ref 95), some (.int i)], [], w, 0, 0) := by
  intro m
  induction m with
  | zero =>
    intro G w i hGE h hl h0 h1 h2
    refine ax_go 2 (y := (20, [some (.ref 1000000), some (.ref 0), some (.ref 95), some (.int i)], [.ref 1000000, .int i], w, 0, 0)) rfl trivial ?_
    refine hx_flen (l := 21) rfl rfl (hx_out h.1 (Nat.le_refl _)) (Nat.le_refl _) rfl (by omega) (fun z1 e1 => ?_)
    refine hx_k (l := 23) (m := 6) rfl rfl (by decide) (fun z2 e2 => ?_)
    refine hx_sub (l := 24) rfl rfl (fun z3 e3 => ?_)
    replace e3 := e3 (by omega) (by omega)
    refine hx_ic_gt (l := 27) rfl rfl (fun e4 => ?_) (fun e4 => absurd e4 (by omega))
    refine ax_go 1 (y := (1070, [some (.ref 1000000), some (.ref 0), some (.ref 95), some (.int i)], [.int 1], w, 0, 0)) rfl trivial ?_
    exact ax_ret rfl rfl ⟨Or.inr rfl, trivial⟩ ⟨rfl, Nat.zero_le _, Nat.zero_le _⟩
  | succ m ih =>
    intro G w i hGE h hl h0 h1 h2
    refine ax_go 2 (y := (20, [some (.ref 1000000), some (.ref 0), some (.ref 95), some (.int i)], [.ref 1000000, .int i], w, 0, 0)) rfl trivial ?_
    refine hx_flen (l := 21) rfl rfl (hx_out h.1 (Nat.le_refl _)) (Nat.le_refl _) rfl (by omega) (fun z1 e1 => ?_)
    refine hx_k (l := 23) (m := 6) rfl rfl (by decide) (fun z2 e2 => ?_)
    refine hx_sub (l := 24) rfl rfl (fun z3 e3 => ?_)
    replace e3 := e3 (by omega) (by omega)
    refine hx_ic_gt (l := 27) rfl rfl (fun e4 => ?_) (fun e4 => ?_)
    · refine ax_go 1 (y := (1070, [some (.ref 1000000), some (.ref 0), some (.ref 95), some (.int i)], [.int 1], w, 0, 0)) rfl trivial ?_
      exact ax_ret rfl rfl ⟨Or.inr rfl, trivial⟩ ⟨rfl, Nat.zero_le _, Nat.zero_le _⟩
    · refine ax_go 2 (y := (29, [some (.ref 1000000), some (.ref 0), some (.ref 95), some (.int i)], [.int i, .ref 1000000], w, 0, 0)) rfl trivial ?_
      refine hx_fil (n := n) (f := xs) (l := 30) rfl rfl (hx_out h.1 (Nat.le_refl _)) (Nat.le_refl _) rfl (by omega) (by omega) (fun z5 e5 => ?_)
      refine hx_k (l := 32) (m := 63) rfl rfl (by decide) (fun z6 e6 => ?_)
      refine hx_any (l := 33) rfl rfl (fun z7 => ?_)
      refine l_sel hn h0 (by omega) hGE h (by omega) (fun G' w1 hG' h' hl' => ?_)
      refine hx_iinc (x := i) (n := 6) (l := 1066) rfl rfl rfl (Nat.le_of_ble_eq_true rfl) (by omega) (by omega) (by decide) (fun z8 e8 => ?_)
      refine ax_go 1 (y := (18, [some (.ref 1000000), some (.ref 0), some (.ref 95), some (.int z8)], [], w1, 0, 0)) rfl trivial ?_
      exact ih G' w1 z8 hG' h' (by omega) (by omega) (by omega) (by omega)
/-- the whole law -/
theorem l_run {n : Nat} {xs : Nat → Int32} (hn : n ≤ 3072) : lwq n xs (fun o => o.1 = some (.int 1) ∧ o.2.2.1 ≤ 1700 ∧ o.2.2.2 ≤ 283000) (0, [some (.ref 1000000), none, none, none], [], [], 0, 0) := by
  refine l_start (ax_shift (Q0 := lQ 512) (l_loop hn 512 lw_G lw_w0 0 lw_GE lw_LI (by decide) (by decide) (by decide) (by show (n : Int) < 0 + _ + 6; omega)) (fun v w1 mc ms hq => ?_))
  obtain ⟨q1, q2, q3⟩ := hq
  dsimp only at q1 q2 q3
  exact ⟨q1, by dsimp only; omega, by dsimp only; omega⟩
