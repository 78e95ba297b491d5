/-! the law: its loop -/
def lQ (m : Nat) (o : ab_O) : Prop := o.1 = some (.int 1) ∧ o.2.2.1 ≤ 3 * m ∧ o.2.2.2 ≤ 501 * m
theorem lQ_up {m : Nat} {v : Option Value} {w : ab_W} {m0 s0 mc ms : Nat} (h1 : m0 ≤ 3) (h2 : s0 ≤ 501) (h : lQ m (v, w, mc, ms)) : lQ (m + 1) (v, w, m0 + mc, s0 + ms) := by
  obtain ⟨q1, q2, q3⟩ := h
  dsimp only at q1 q2 q3
  exact ⟨q1, by dsimp only; omega, by dsimp only; omega⟩
theorem lz_sh {n m : Nat} {xs : Nat → Int32} {T : List im_T} {x : im_S} (h : lzq n xs T (lQ m) x) : lzq n xs T (lQ (m + 1)) x := by
  obtain ⟨pc, L, st, w⟩ := x
  exact ax_shift (Q0 := lQ m) (a := 0) (b := 0) h (fun v w1 mc ms hq => lQ_up (by decide) (by decide) hq)
set_option maxHeartbeats 8000000 in
theorem l_sel {n m : Nat} {xs : Nat → Int32} {T : List im_T} {X : cw_X} {v : Nat → Int} {R : Nat → Int → Int} {i z : Int} (hn : n ≤ 3072) (hT : T.length < 1000) (hT9 : T.length + 1 < 1000) (h0 : 0 ≤ i) (h6 : i + 6 ≤ n) (hz : im_ir z) (h : INV T X v R) (K : ∀ T' X' v' R', INV T' X' v' R' → T'.length ≤ T.length + 1 → lzq n xs T' (lQ m) (1063, [some (mr 1000000), some (mr 0), some (mr 95), some (.inl i)], [], CW X' ++ MZ v' R')) : lzq n xs T (lQ (m + 1)) (33, [some (mr 1000000), some (mr 0), some (mr 95), some (.inl i)], [.inl z], CW X ++ MZ v R) := by
  have K1 : ∀ X' v' R', INV T X' v' R' → lzq n xs T (lQ (m + 1)) (1063, [some (mr 1000000), some (mr 0), some (mr 95), some (.inl i)], [], CW X' ++ MZ v' R') := fun X' v' R' h1 => lz_sh (K T X' v' R' h1 (Nat.le_succ _))
  have K2 : ∀ T' X' v' R', INV T' X' v' R' → T'.length = T.length + 1 → lzq n xs T' (lQ m) (1063, [some (mr 1000000), some (mr 0), some (mr 95), some (.inl i)], [], CW X' ++ MZ v' R') := fun T' X' v' R' h1 e => K T' X' v' R' h1 (Nat.le_of_eq e)
  by_cases e0 : z = 0
  · subst e0
    refine im_swG (tgt := 188) rfl (by decide) (by decide) (Or.inr ⟨_, rfl, by decide⟩) (by decide) ?_
    exact lc_0 hn hT h0 h6 h K1
  by_cases e1 : z = 1
  · subst e1
    refine im_swG (tgt := 221) rfl (by decide) (by decide) (Or.inr ⟨_, rfl, by decide⟩) (by decide) ?_
    exact lc_1 hn hT h0 h6 h K1
  by_cases e2 : z = 2
  · subst e2
    refine im_swG (tgt := 254) rfl (by decide) (by decide) (Or.inr ⟨_, rfl, by decide⟩) (by decide) ?_
    exact lc_2 hn hT h0 h6 h K1
  by_cases e3 : z = 3
  · subst e3
    refine im_swG (tgt := 287) rfl (by decide) (by decide) (Or.inr ⟨_, rfl, by decide⟩) (by decide) ?_
    exact lc_3 hn hT h0 h6 h K1
  by_cases e4 : z = 4
  · subst e4
    refine im_swG (tgt := 320) rfl (by decide) (by decide) (Or.inr ⟨_, rfl, by decide⟩) (by decide) ?_
    exact lc_4 hn hT h0 h6 h K1
  by_cases e5 : z = 5
  · subst e5
    refine im_swG (tgt := 383) rfl (by decide) (by decide) (Or.inr ⟨_, rfl, by decide⟩) (by decide) ?_
    exact lc_5 hn hT h0 h6 h K1
  by_cases e6 : z = 6
  · subst e6
    refine im_swG (tgt := 406) rfl (by decide) (by decide) (Or.inr ⟨_, rfl, by decide⟩) (by decide) ?_
    exact lc_6 hn hT h0 h6 h K1
  by_cases e7 : z = 7
  · subst e7
    refine im_swG (tgt := 419) rfl (by decide) (by decide) (Or.inr ⟨_, rfl, by decide⟩) (by decide) ?_
    exact lc_7 hn hT h0 h6 h K1
  by_cases e8 : z = 8
  · subst e8
    refine im_swG (tgt := 432) rfl (by decide) (by decide) (Or.inr ⟨_, rfl, by decide⟩) (by decide) ?_
    exact lc_8 (Q0 := lQ m) hn hT hT9 h0 h6 h K1 K2 (fun v w mc ms hq s0 h1 => lQ_up (by decide) h1 hq)
  by_cases e9 : z = 9
  · subst e9
    refine im_swG (tgt := 445) rfl (by decide) (by decide) (Or.inr ⟨_, rfl, by decide⟩) (by decide) ?_
    exact lc_9 hn hT h0 h6 h K1
  by_cases e10 : z = 10
  · subst e10
    refine im_swG (tgt := 458) rfl (by decide) (by decide) (Or.inr ⟨_, rfl, by decide⟩) (by decide) ?_
    exact lc_10 hn hT h0 h6 h K1
  by_cases e11 : z = 11
  · subst e11
    refine im_swG (tgt := 471) rfl (by decide) (by decide) (Or.inr ⟨_, rfl, by decide⟩) (by decide) ?_
    exact lc_11 hn hT h0 h6 h K1
  by_cases e12 : z = 12
  · subst e12
    refine im_swG (tgt := 484) rfl (by decide) (by decide) (Or.inr ⟨_, rfl, by decide⟩) (by decide) ?_
    exact lc_12 hn hT h0 h6 h K1
  by_cases e13 : z = 13
  · subst e13
    refine im_swG (tgt := 507) rfl (by decide) (by decide) (Or.inr ⟨_, rfl, by decide⟩) (by decide) ?_
    exact lc_13 hn hT h0 h6 h K1
  by_cases e14 : z = 14
  · subst e14
    refine im_swG (tgt := 530) rfl (by decide) (by decide) (Or.inr ⟨_, rfl, by decide⟩) (by decide) ?_
    exact lc_14 hn hT h0 h6 h K1
  by_cases e15 : z = 15
  · subst e15
    refine im_swG (tgt := 543) rfl (by decide) (by decide) (Or.inr ⟨_, rfl, by decide⟩) (by decide) ?_
    exact lc_15 hn hT h0 h6 h K1
  by_cases e16 : z = 16
  · subst e16
    refine im_swG (tgt := 586) rfl (by decide) (by decide) (Or.inr ⟨_, rfl, by decide⟩) (by decide) ?_
    exact lc_16 hn hT h0 h6 h K1
  by_cases e17 : z = 17
  · subst e17
    refine im_swG (tgt := 619) rfl (by decide) (by decide) (Or.inr ⟨_, rfl, by decide⟩) (by decide) ?_
    exact lc_17 hn hT h0 h6 h K1
  by_cases e18 : z = 18
  · subst e18
    refine im_swG (tgt := 632) rfl (by decide) (by decide) (Or.inr ⟨_, rfl, by decide⟩) (by decide) ?_
    exact lc_18 hn hT h0 h6 h K1
  by_cases e19 : z = 19
  · subst e19
    refine im_swG (tgt := 655) rfl (by decide) (by decide) (Or.inr ⟨_, rfl, by decide⟩) (by decide) ?_
    exact lc_19 hn hT h0 h6 h K1
  by_cases e20 : z = 20
  · subst e20
    refine im_swG (tgt := 678) rfl (by decide) (by decide) (Or.inr ⟨_, rfl, by decide⟩) (by decide) ?_
    exact lc_20 hn hT h0 h6 h K1
  by_cases e21 : z = 21
  · subst e21
    refine im_swG (tgt := 701) rfl (by decide) (by decide) (Or.inr ⟨_, rfl, by decide⟩) (by decide) ?_
    exact lc_21 hn hT h0 h6 h K1
  by_cases e22 : z = 22
  · subst e22
    refine im_swG (tgt := 744) rfl (by decide) (by decide) (Or.inr ⟨_, rfl, by decide⟩) (by decide) ?_
    exact lc_22 hn hT h0 h6 h K1
  by_cases e23 : z = 23
  · subst e23
    refine im_swG (tgt := 767) rfl (by decide) (by decide) (Or.inr ⟨_, rfl, by decide⟩) (by decide) ?_
    exact lc_23 hn hT h0 h6 h K1
  by_cases e24 : z = 24
  · subst e24
    refine im_swG (tgt := 800) rfl (by decide) (by decide) (Or.inr ⟨_, rfl, by decide⟩) (by decide) ?_
    exact lc_24 hn hT h0 h6 h K1
  by_cases e25 : z = 25
  · subst e25
    refine im_swG (tgt := 813) rfl (by decide) (by decide) (Or.inr ⟨_, rfl, by decide⟩) (by decide) ?_
    exact lc_25 hn hT h0 h6 h K1
  by_cases e26 : z = 26
  · subst e26
    refine im_swG (tgt := 836) rfl (by decide) (by decide) (Or.inr ⟨_, rfl, by decide⟩) (by decide) ?_
    exact lc_26 hn hT h0 h6 h K1
  by_cases e27 : z = 27
  · subst e27
    refine im_swG (tgt := 859) rfl (by decide) (by decide) (Or.inr ⟨_, rfl, by decide⟩) (by decide) ?_
    exact lc_27 hn hT h0 h6 h K1
  by_cases e28 : z = 28
  · subst e28
    refine im_swG (tgt := 882) rfl (by decide) (by decide) (Or.inr ⟨_, rfl, by decide⟩) (by decide) ?_
    exact lc_28 hn hT h0 h6 h K1
  by_cases e29 : z = 29
  · subst e29
    refine im_swG (tgt := 915) rfl (by decide) (by decide) (Or.inr ⟨_, rfl, by decide⟩) (by decide) ?_
    exact lc_29 hn hT h0 h6 h K1
  by_cases e30 : z = 30
  · subst e30
    refine im_swG (tgt := 948) rfl (by decide) (by decide) (Or.inr ⟨_, rfl, by decide⟩) (by decide) ?_
    exact lc_30 hn hT h0 h6 h K1
  by_cases e31 : z = 31
  · subst e31
    refine im_swG (tgt := 981) rfl (by decide) (by decide) (Or.inr ⟨_, rfl, by decide⟩) (by decide) ?_
    exact lc_31 hn hT h0 h6 h K1
  by_cases e32 : z = 32
  · subst e32
    refine im_swG (tgt := 1004) rfl (by decide) (by decide) (Or.inr ⟨_, rfl, by decide⟩) (by decide) ?_
    exact lc_32 hn hT h0 h6 h K1
  by_cases e33 : z = 33
  · subst e33
    refine im_swG (tgt := 1027) rfl (by decide) (by decide) (Or.inr ⟨_, rfl, by decide⟩) (by decide) ?_
    exact lc_33 hn hT h0 h6 h K1
  by_cases e34 : z = 34
  · subst e34
    refine im_swG (tgt := 1050) rfl (by decide) (by decide) (Or.inr ⟨_, rfl, by decide⟩) (by decide) ?_
    exact lc_34 hn hT h0 h6 h K1
  have hout : z < 0 ∨ 34 < z := by omega
  refine im_swG (tgt := 1063) rfl hz (by decide) (Or.inl hout) (by unfold im_ts; rw [if_pos hout]; rfl) ?_
  exact K1 X v R h
theorem l_loop {n : Nat} {xs : Nat → Int32} (hn : n ≤ 3072) : ∀ (m : Nat) (T : List im_T) (X : cw_X) (v : Nat → Int) (R : Nat → Int → Int) (i : Int), INV T X v R → T.length + m < 900 → 0 ≤ i → i ≤ 3072 → (n : Int) < i + 6 * m + 6 → lzq n xs T (lQ m) (18, [some (mr 1000000), some (mr 0), some (mr 95), some (.inl i)], [], CW X ++ MZ v R) := by
  intro m
  induction m with
  | zero =>
    intro T X v R i h hl h0 h1 h2
    refine im_gG 2 (y := (20, _, _, _)) rfl trivial ?_
    refine im_ralG (m := n) (f := xs) rfl (by decide) rfl (by show (119 : Nat) < 1000; decide) (by omega) ?_
    refine im_gG 2 (y := (24, _, _, _)) rfl trivial ?_
    refine im_bTG rfl rfl ⟨(by constructor <;> omega), (by constructor <;> omega), trivial⟩ (by omega) ?_
    refine im_gG 1 (y := (1070, _, _, _)) rfl trivial ?_
    exact ax_ret rfl rfl ⟨Or.inr rfl, trivial⟩ ⟨rfl, Nat.zero_le _, Nat.zero_le _⟩
  | succ m ih =>
    intro T X v R i h hl h0 h1 h2
    refine im_gG 2 (y := (20, _, _, _)) rfl trivial ?_
    refine im_ralG (m := n) (f := xs) rfl (by decide) rfl (by show (119 : Nat) < 1000; decide) (by omega) ?_
    refine im_gG 2 (y := (24, _, _, _)) rfl trivial ?_
    refine im_bG rfl rfl ⟨(by constructor <;> omega), (by constructor <;> omega), trivial⟩ (fun c => ?_) (fun c => ?_)
    · refine im_gG 1 (y := (1070, _, _, _)) rfl trivial ?_
      exact ax_ret rfl rfl ⟨Or.inr rfl, trivial⟩ ⟨rfl, Nat.zero_le _, Nat.zero_le _⟩
    · refine im_gG 2 (y := (29, _, _, _)) rfl trivial ?_
      refine im_raiG (m := n) (f := xs) rfl (by decide) rfl (by show (119 : Nat) < 1000; decide) (by omega) (by constructor <;> omega) (Int32.ofInt_toInt _).symm ?_
      refine im_gG 2 (y := (33, _, _, _)) rfl trivial ?_
      refine l_sel hn (by omega) (by omega) h0 (by omega) (im_and_ir _ _) h (fun T' X' v' R' h' hl' => ?_)
      refine im_gG 2 (y := (18, _, _, _)) rfl trivial ?_
      exact ih T' X' v' R' (i + 6) h' (by omega) (by omega) (by omega) (by omega)
/-- the whole law -/
theorem l_run {n : Nat} {xs : Nat → Int32} (hn : n ≤ 3072) : lwq n xs (fun o => o.1 = some (.int 1) ∧ o.2.2.1 ≤ 1700 ∧ o.2.2.2 ≤ 283000) (0, [some (.ref 1000000), none, none, none], [], [], 0, 0) := by
  have hl := l_loop (xs := xs) hn 512 [] x0_X x0_v x0_R 0 x0_INV (by decide) (by decide) (by decide) (by show (n : Int) < 0 + 6 * ((512 : Nat) : Int) + 6; omega)
  have hl2 : lwq n xs (lQ 512) (18, [some (.ref 1000000), some (.ref 0), some (.ref 95), some (.int 0)], [], lw_w0, 0, 0) := by
    rw [x0_w0]
    exact hl
  refine l_start (ax_shift (Q0 := lQ 512) hl2 (fun v w1 mc ms hq => ?_))
  obtain ⟨q1, q2, q3⟩ := hq
  dsimp only at q1 q2 q3
  exact ⟨q1, by dsimp only; omega, by dsimp only; omega⟩
