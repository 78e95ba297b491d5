/-! the law: its cases, by program (2) -/
set_option maxHeartbeats 4000000 in
theorem lc_25 {n : Nat} {xs : Nat → Int32} {Q : ab_O → Prop} {G : Nat → Nat} {w : ab_W} {i : Int32} (hn : n ≤ 3072) (h0 : 0 ≤ i.toInt) (h6 : i.toInt + 6 ≤ n) (hGE : GE G) (h : LI G w) (K : ∀ w1, LI G w1 → w1.length = w.length → lwq n xs Q (1063, [some (.ref 1000000), some (.ref 0), some (.ref 95), some (.int i)], [], w1, 0, 0)) : lwq n xs Q (813, [some (.ref 1000000), some (.ref 0), some (.ref 95), some (.int i)], [], w, 0, 0) := by
  obtain ⟨hG0, hGm, hU2, hU3⟩ := hGE
  obtain ⟨hw, hf, b, c, hb, ht, hbc⟩ := h
  have hl : w.length = w.length := rfl
  refine ax_go 3 (y := (816, [some (.ref 1000000), some (.ref 0), some (.ref 95), some (.int i)], [.int i, .ref 1000000, .ref 0], w, 0, 0)) rfl trivial ?_
  refine hx_k (l := 817) (m := 1) rfl rfl (by decide) (fun z1 h2 => ?_)
  refine hx_add (l := 818) rfl rfl (fun z3 h4 => ?_)
  replace h4 := h4 (by omega) (by omega)
  refine hx_fil (n := n) (f := xs) (l := 819) rfl rfl (hx_out hw (Nat.le_refl _)) (Nat.le_refl _) rfl (by omega) (by omega) (fun z5 h6 => ?_)
  obtain ⟨fs7, g8, -, q9⟩ := hx_obj hw hG0 (s := 1) rfl (by decide)
  refine hx_ci (l := 822) (as := [.ref 0, .int z5]) rfl rfl (hx_iv (j := 105) (n := 1) (o := 0) (r := []) rfl rfl g8 rfl) (cc_X8_hidden_0 (fz := ([(1, 0), (30, 13)] : List (Nat × Nat))) (FA_same (G := G)) (fun d => h_X3_findHidden (fz := ([(1, 0), (30, 13)] : List (Nat × Nat))) (FA_same (G := G)) (by decide +kernel) d) (by decide +kernel) 103) hw hf ⟨(hx_tr (G := G) (s := 1) (b := 0) hG0 (by decide)), (ck_top_ok (G := G) z5), trivial⟩ (fun w10 z14 hw11 hf12 m13 a15 b16 u17 => ?_)
  have hb18 := lx_b hw11 m13 hG0 (by decide) hb
  have ht19 := lx_t hw11 m13 hGm (by decide) ht
  have hl20 : w10.length = w.length := m13.1.trans hl
  refine ax_go 4 (y := (826, [some (.ref 1000000), some (.ref 0), some (.ref 95), some (.int i)], [.int i, .ref 1000000, .ref 95], w10, 0, 0)) rfl trivial ?_
  refine hx_k (l := 827) (m := 1) rfl rfl (by decide) (fun z21 h22 => ?_)
  refine hx_add (l := 828) rfl rfl (fun z23 h24 => ?_)
  replace h24 := h24 (by omega) (by omega)
  refine hx_fil (n := n) (f := xs) (l := 829) rfl rfl (hx_out hw11 (Nat.le_refl _)) (Nat.le_refl _) rfl (by omega) (by omega) (fun z25 h26 => ?_)
  obtain ⟨fs27, g28, -, q29⟩ := hx_obj hw11 hGm (s := 30) rfl (by decide)
  refine hx_ci (l := 832) (as := [.ref 95, .int z25]) rfl rfl (hx_iv (j := 222) (n := 1) (o := 95) (r := []) rfl rfl g28 rfl) (cc_X9_hidden_0 (fz := ([(1, 0), (30, 13)] : List (Nat × Nat))) (FA_same (G := G)) (fun d => cgM (h_X9_isHidden (fz := ([(1, 0), (30, 13)] : List (Nat × Nat))) (FA_Ms (G := G)) (by decide +kernel) (d + 22))) (by decide +kernel) 12) hw11 hf12 ⟨(hx_tr (G := G) (s := 30) (b := 0) hGm (by decide)), (ck_top_ok (G := G) z25), trivial⟩ (fun w30 z34 hw31 hf32 m33 a35 b36 u37 => ?_)
  have hb38 := lx_b hw31 m33 hG0 (by decide) hb18
  have ht39 := lx_t hw31 m33 hGm (by decide) ht19
  have hl40 : w30.length = w.length := m33.1.trans hl20
  refine ax_go 2 (y := (1063, [some (.ref 1000000), some (.ref 0), some (.ref 95), some (.int i)], [], w30, 0, 0)) rfl trivial ?_
  exact K w30 ⟨hw31, hf32, _, _, hb38, ht39, by omega⟩ hl40
set_option maxHeartbeats 4000000 in
theorem lc_26 {n : Nat} {xs : Nat → Int32} {Q : ab_O → Prop} {G : Nat → Nat} {w : ab_W} {i : Int32} (hn : n ≤ 3072) (h0 : 0 ≤ i.toInt) (h6 : i.toInt + 6 ≤ n) (hGE : GE G) (h : LI G w) (K : ∀ w1, LI G w1 → w1.length = w.length → lwq n xs Q (1063, [some (.ref 1000000), some (.ref 0), some (.ref 95), some (.int i)], [], w1, 0, 0)) : lwq n xs Q (836, [some (.ref 1000000), some (.ref 0), some (.ref 95), some (.int i)], [], w, 0, 0) := by
  obtain ⟨hG0, hGm, hU2, hU3⟩ := hGE
  obtain ⟨hw, hf, b, c, hb, ht, hbc⟩ := h
  have hl : w.length = w.length := rfl
  refine ax_go 3 (y := (839, [some (.ref 1000000), some (.ref 0), some (.ref 95), some (.int i)], [.int i, .ref 1000000, .ref 0], w, 0, 0)) rfl trivial ?_
  refine hx_k (l := 840) (m := 1) rfl rfl (by decide) (fun z1 h2 => ?_)
  refine hx_add (l := 841) rfl rfl (fun z3 h4 => ?_)
  replace h4 := h4 (by omega) (by omega)
  refine hx_fil (n := n) (f := xs) (l := 842) rfl rfl (hx_out hw (Nat.le_refl _)) (Nat.le_refl _) rfl (by omega) (by omega) (fun z5 h6 => ?_)
  obtain ⟨fs7, g8, -, q9⟩ := hx_obj hw hG0 (s := 1) rfl (by decide)
  refine hx_ci (l := 845) (as := [.ref 0, .int z5]) rfl rfl (hx_iv (j := 106) (n := 1) (o := 0) (r := []) rfl rfl g8 rfl) (cc_X8_look_0 (fz := ([(1, 0), (30, 13)] : List (Nat × Nat))) (FA_same (G := G)) (fun d => h_X3_findHidden (fz := ([(1, 0), (30, 13)] : List (Nat × Nat))) (FA_same (G := G)) (by decide +kernel) d) (by decide +kernel) 102) hw hf ⟨(hx_tr (G := G) (s := 1) (b := 0) hG0 (by decide)), (ck_top_ok (G := G) z5), trivial⟩ (fun w10 z14 hw11 hf12 m13 a15 b16 u17 => ?_)
  have hb18 := lx_b hw11 m13 hG0 (by decide) hb
  have ht19 := lx_t hw11 m13 hGm (by decide) ht
  have hl20 : w10.length = w.length := m13.1.trans hl
  refine ax_go 4 (y := (849, [some (.ref 1000000), some (.ref 0), some (.ref 95), some (.int i)], [.int i, .ref 1000000, .ref 95], w10, 0, 0)) rfl trivial ?_
  refine hx_k (l := 850) (m := 1) rfl rfl (by decide) (fun z21 h22 => ?_)
  refine hx_add (l := 851) rfl rfl (fun z23 h24 => ?_)
  replace h24 := h24 (by omega) (by omega)
  refine hx_fil (n := n) (f := xs) (l := 852) rfl rfl (hx_out hw11 (Nat.le_refl _)) (Nat.le_refl _) rfl (by omega) (by omega) (fun z25 h26 => ?_)
  obtain ⟨fs27, g28, -, q29⟩ := hx_obj hw11 hGm (s := 30) rfl (by decide)
  refine hx_ci (l := 855) (as := [.ref 95, .int z25]) rfl rfl (hx_iv (j := 224) (n := 1) (o := 95) (r := []) rfl rfl g28 rfl) (cc_X9_look_0 (fz := ([(1, 0), (30, 13)] : List (Nat × Nat))) (FA_same (G := G)) (fun d => h_X9_lies3 (fz := ([(1, 0), (30, 13)] : List (Nat × Nat))) (FA_same (G := G)) (by decide +kernel) d) (fun d => cgM (h_X9_isHidden (fz := ([(1, 0), (30, 13)] : List (Nat × Nat))) (FA_Ms (G := G)) (by decide +kernel) (d + 22))) (by decide +kernel) 12) hw11 hf12 ⟨(hx_tr (G := G) (s := 30) (b := 0) hGm (by decide)), (ck_top_ok (G := G) z25), trivial⟩ (fun w30 z34 hw31 hf32 m33 a35 b36 u37 => ?_)
  have hb38 := lx_b hw31 m33 hG0 (by decide) hb18
  have ht39 := lx_t hw31 m33 hGm (by decide) ht19
  have hl40 : w30.length = w.length := m33.1.trans hl20
  refine ax_go 2 (y := (1063, [some (.ref 1000000), some (.ref 0), some (.ref 95), some (.int i)], [], w30, 0, 0)) rfl trivial ?_
  exact K w30 ⟨hw31, hf32, _, _, hb38, ht39, by omega⟩ hl40
set_option maxHeartbeats 4000000 in
theorem lc_27 {n : Nat} {xs : Nat → Int32} {Q : ab_O → Prop} {G : Nat → Nat} {w : ab_W} {i : Int32} (hn : n ≤ 3072) (h0 : 0 ≤ i.toInt) (h6 : i.toInt + 6 ≤ n) (hGE : GE G) (h : LI G w) (K : ∀ w1, LI G w1 → w1.length = w.length → lwq n xs Q (1063, [some (.ref 1000000), some (.ref 0), some (.ref 95), some (.int i)], [], w1, 0, 0)) : lwq n xs Q (859, [some (.ref 1000000), some (.ref 0), some (.ref 95), some (.int i)], [], w, 0, 0) := by
  obtain ⟨hG0, hGm, hU2, hU3⟩ := hGE
  obtain ⟨hw, hf, b, c, hb, ht, hbc⟩ := h
  have hl : w.length = w.length := rfl
  refine ax_go 3 (y := (862, [some (.ref 1000000), some (.ref 0), some (.ref 95), some (.int i)], [.int i, .ref 1000000, .ref 0], w, 0, 0)) rfl trivial ?_
  refine hx_k (l := 863) (m := 1) rfl rfl (by decide) (fun z1 h2 => ?_)
  refine hx_add (l := 864) rfl rfl (fun z3 h4 => ?_)
  replace h4 := h4 (by omega) (by omega)
  refine hx_fil (n := n) (f := xs) (l := 865) rfl rfl (hx_out hw (Nat.le_refl _)) (Nat.le_refl _) rfl (by omega) (by omega) (fun z5 h6 => ?_)
  obtain ⟨fs7, g8, -, q9⟩ := hx_obj hw hG0 (s := 1) rfl (by decide)
  refine hx_ci (l := 868) (as := [.ref 0, .int z5]) rfl rfl (hx_iv (j := 107) (n := 1) (o := 0) (r := []) rfl rfl g8 rfl) (cc_X8_moved_0 (fz := ([(1, 0), (30, 13)] : List (Nat × Nat))) (FA_same (G := G)) (fun d => h_X1_has0 (fz := ([(1, 0), (30, 13)] : List (Nat × Nat))) (FA_same (G := G)) (by decide +kernel) d) (fun d => h_X7_part0 (fz := ([(1, 0), (30, 13)] : List (Nat × Nat))) (FA_same (G := G)) (by decide +kernel) d) (fun d => h_X2_value0 (fz := ([(1, 0), (30, 13)] : List (Nat × Nat))) (FA_same (G := G)) (by decide +kernel) d) (fun d => h_X1_has1 (fz := ([(1, 0), (30, 13)] : List (Nat × Nat))) (FA_same (G := G)) (by decide +kernel) d) (by decide +kernel) 103) hw hf ⟨(hx_tr (G := G) (s := 1) (b := 0) hG0 (by decide)), (ck_top_ok (G := G) z5), trivial⟩ (fun w10 z14 hw11 hf12 m13 a15 b16 u17 => ?_)
  have hb18 := lx_b hw11 m13 hG0 (by decide) hb
  have ht19 := lx_t hw11 m13 hGm (by decide) ht
  have hl20 : w10.length = w.length := m13.1.trans hl
  refine ax_go 4 (y := (872, [some (.ref 1000000), some (.ref 0), some (.ref 95), some (.int i)], [.int i, .ref 1000000, .ref 95], w10, 0, 0)) rfl trivial ?_
  refine hx_k (l := 873) (m := 1) rfl rfl (by decide) (fun z21 h22 => ?_)
  refine hx_add (l := 874) rfl rfl (fun z23 h24 => ?_)
  replace h24 := h24 (by omega) (by omega)
  refine hx_fil (n := n) (f := xs) (l := 875) rfl rfl (hx_out hw11 (Nat.le_refl _)) (Nat.le_refl _) rfl (by omega) (by omega) (fun z25 h26 => ?_)
  obtain ⟨fs27, g28, -, q29⟩ := hx_obj hw11 hGm (s := 30) rfl (by decide)
  refine hx_ci (l := 878) (as := [.ref 95, .int z25]) rfl rfl (hx_iv (j := 225) (n := 1) (o := 95) (r := []) rfl rfl g28 rfl) (cgM (h_X9_moved (fz := ([(1, 0), (30, 13)] : List (Nat × Nat))) (FA_Ms (G := G)) (by decide +kernel) 34)) hw11 hf12 ⟨(hx_tr (G := G) (s := 30) (b := 0) hGm (by decide)), (ck_top_ok (G := G) z25), trivial⟩ (fun w30 z34 hw31 hf32 m33 a35 b36 u37 => ?_)
  have hb38 := lx_b hw31 m33 hG0 (by decide) hb18
  have ht39 := lx_t hw31 m33 hGm (by decide) ht19
  have hl40 : w30.length = w.length := m33.1.trans hl20
  refine ax_go 2 (y := (1063, [some (.ref 1000000), some (.ref 0), some (.ref 95), some (.int i)], [], w30, 0, 0)) rfl trivial ?_
  exact K w30 ⟨hw31, hf32, _, _, hb38, ht39, by omega⟩ hl40
set_option maxHeartbeats 4000000 in
theorem lc_28 {n : Nat} {xs : Nat → Int32} {Q : ab_O → Prop} {G : Nat → Nat} {w : ab_W} {i : Int32} (hn : n ≤ 3072) (h0 : 0 ≤ i.toInt) (h6 : i.toInt + 6 ≤ n) (hGE : GE G) (h : LI G w) (K : ∀ w1, LI G w1 → w1.length = w.length → lwq n xs Q (1063, [some (.ref 1000000), some (.ref 0), some (.ref 95), some (.int i)], [], w1, 0, 0)) : lwq n xs Q (882, [some (.ref 1000000), some (.ref 0), some (.ref 95), some (.int i)], [], w, 0, 0) := by
  obtain ⟨hG0, hGm, hU2, hU3⟩ := hGE
  obtain ⟨hw, hf, b, c, hb, ht, hbc⟩ := h
  have hl : w.length = w.length := rfl
  refine ax_go 3 (y := (885, [some (.ref 1000000), some (.ref 0), some (.ref 95), some (.int i)], [.int i, .ref 1000000, .ref 0], w, 0, 0)) rfl trivial ?_
  refine hx_k (l := 886) (m := 1) rfl rfl (by decide) (fun z1 h2 => ?_)
  refine hx_add (l := 887) rfl rfl (fun z3 h4 => ?_)
  replace h4 := h4 (by omega) (by omega)
  refine hx_fil (n := n) (f := xs) (l := 888) rfl rfl (hx_out hw (Nat.le_refl _)) (Nat.le_refl _) rfl (by omega) (by omega) (fun z5 h6 => ?_)
  refine ax_go 2 (y := (890, [some (.ref 1000000), some (.ref 0), some (.ref 95), some (.int i)], [.int i, .ref 1000000, .int z5, .ref 0], w, 0, 0)) rfl trivial ?_
  refine hx_k (l := 891) (m := 2) rfl rfl (by decide) (fun z7 h8 => ?_)
  refine hx_add (l := 892) rfl rfl (fun z9 h10 => ?_)
  replace h10 := h10 (by omega) (by omega)
  refine hx_fil (n := n) (f := xs) (l := 893) rfl rfl (hx_out hw (Nat.le_refl _)) (Nat.le_refl _) rfl (by omega) (by omega) (fun z11 h12 => ?_)
  obtain ⟨fs13, g14, -, q15⟩ := hx_obj hw hG0 (s := 1) rfl (by decide)
  refine hx_ci (l := 896) (as := [.ref 0, .int z5, .int z11]) rfl rfl (hx_iv (j := 108) (n := 2) (o := 0) (r := []) rfl rfl g14 rfl) (cc_X8_flow_0 (fz := ([(1, 0), (30, 13)] : List (Nat × Nat))) (FA_same (G := G)) (fun d => h_X7_part0 (fz := ([(1, 0), (30, 13)] : List (Nat × Nat))) (FA_same (G := G)) (by decide +kernel) d) (fun d => h_X2_value0 (fz := ([(1, 0), (30, 13)] : List (Nat × Nat))) (FA_same (G := G)) (by decide +kernel) d) (fun d => h_X1_has1 (fz := ([(1, 0), (30, 13)] : List (Nat × Nat))) (FA_same (G := G)) (by decide +kernel) d) (fun d => h_X1_passDay0 (fz := ([(1, 0), (30, 13)] : List (Nat × Nat))) (FA_same (G := G)) (by decide +kernel) d) (by decide +kernel) 103) hw hf ⟨(hx_tr (G := G) (s := 1) (b := 0) hG0 (by decide)), (ck_top_ok (G := G) z5), (ck_top_ok (G := G) z11), trivial⟩ (fun w16 z20 hw17 hf18 m19 a21 b22 u23 => ?_)
  have hb24 := lx_b hw17 m19 hG0 (by decide) hb
  have ht25 := lx_t hw17 m19 hGm (by decide) ht
  have hl26 : w16.length = w.length := m19.1.trans hl
  refine ax_go 4 (y := (900, [some (.ref 1000000), some (.ref 0), some (.ref 95), some (.int i)], [.int i, .ref 1000000, .ref 95], w16, 0, 0)) rfl trivial ?_
  refine hx_k (l := 901) (m := 1) rfl rfl (by decide) (fun z27 h28 => ?_)
  refine hx_add (l := 902) rfl rfl (fun z29 h30 => ?_)
  replace h30 := h30 (by omega) (by omega)
  refine hx_fil (n := n) (f := xs) (l := 903) rfl rfl (hx_out hw17 (Nat.le_refl _)) (Nat.le_refl _) rfl (by omega) (by omega) (fun z31 h32 => ?_)
  refine ax_go 2 (y := (905, [some (.ref 1000000), some (.ref 0), some (.ref 95), some (.int i)], [.int i, .ref 1000000, .int z31, .ref 95], w16, 0, 0)) rfl trivial ?_
  refine hx_k (l := 906) (m := 2) rfl rfl (by decide) (fun z33 h34 => ?_)
  refine hx_add (l := 907) rfl rfl (fun z35 h36 => ?_)
  replace h36 := h36 (by omega) (by omega)
  refine hx_fil (n := n) (f := xs) (l := 908) rfl rfl (hx_out hw17 (Nat.le_refl _)) (Nat.le_refl _) rfl (by omega) (by omega) (fun z37 h38 => ?_)
  obtain ⟨fs39, g40, -, q41⟩ := hx_obj hw17 hGm (s := 30) rfl (by decide)
  refine hx_ci (l := 911) (as := [.ref 95, .int z31, .int z37]) rfl rfl (hx_iv (j := 227) (n := 2) (o := 95) (r := []) rfl rfl g40 rfl) (cc_X9_flow_0 (fz := ([(1, 0), (30, 13)] : List (Nat × Nat))) (FA_same (G := G)) (fun d => cgM (h_X9_walkersOf (fz := ([(1, 0), (30, 13)] : List (Nat × Nat))) (FA_Ms (G := G)) (by decide +kernel) (d + 27))) (fun d => cgM (h_X9_isBarred (fz := ([(1, 0), (30, 13)] : List (Nat × Nat))) (FA_Ms (G := G)) (by decide +kernel) (d + 27))) (fun d => h_X9_lies1 (fz := ([(1, 0), (30, 13)] : List (Nat × Nat))) (FA_same (G := G)) (by decide +kernel) d) (fun d => cgM (h_X9_reckons (fz := ([(1, 0), (30, 13)] : List (Nat × Nat))) (FA_Ms (G := G)) (by decide +kernel) (d + 24))) (fun d => cgM (h_X9_dayPasses (fz := ([(1, 0), (30, 13)] : List (Nat × Nat))) (FA_Ms (G := G)) (by decide +kernel) d)) (fun d => cgM (h_X9_laysAside (fz := ([(1, 0), (30, 13)] : List (Nat × Nat))) (FA_Ms (G := G)) (by decide +kernel) d)) (fun d => cgM (h_X9_takesBack (fz := ([(1, 0), (30, 13)] : List (Nat × Nat))) (FA_Ms (G := G)) (by decide +kernel) d)) (fun d => h_X9_lies7 (fz := ([(1, 0), (30, 13)] : List (Nat × Nat))) (FA_same (G := G)) (by decide +kernel) d) (by decide +kernel) 15) hw17 hf18 ⟨(hx_tr (G := G) (s := 30) (b := 0) hGm (by decide)), (ck_top_ok (G := G) z31), (ck_top_ok (G := G) z37), trivial⟩ (fun w42 z46 hw43 hf44 m45 a47 b48 u49 => ?_)
  have hb50 := lx_b hw43 m45 hG0 (by decide) hb24
  have ht51 := lx_t hw43 m45 hGm (by decide) ht25
  have hl52 : w42.length = w.length := m45.1.trans hl26
  refine ax_go 2 (y := (1063, [some (.ref 1000000), some (.ref 0), some (.ref 95), some (.int i)], [], w42, 0, 0)) rfl trivial ?_
  exact K w42 ⟨hw43, hf44, _, _, hb50, ht51, by omega⟩ hl52
set_option maxHeartbeats 4000000 in
theorem lc_29 {n : Nat} {xs : Nat → Int32} {Q : ab_O → Prop} {G : Nat → Nat} {w : ab_W} {i : Int32} (hn : n ≤ 3072) (h0 : 0 ≤ i.toInt) (h6 : i.toInt + 6 ≤ n) (hGE : GE G) (h : LI G w) (K : ∀ w1, LI G w1 → w1.length = w.length → lwq n xs Q (1063, [some (.ref 1000000), some (.ref 0), some (.ref 95), some (.int i)], [], w1, 0, 0)) : lwq n xs Q (915, [some (.ref 1000000), some (.ref 0), some (.ref 95), some (.int i)], [], w, 0, 0) := by
  obtain ⟨hG0, hGm, hU2, hU3⟩ := hGE
  obtain ⟨hw, hf, b, c, hb, ht, hbc⟩ := h
  have hl : w.length = w.length := rfl
  refine ax_go 3 (y := (918, [some (.ref 1000000), some (.ref 0), some (.ref 95), some (.int i)], [.int i, .ref 1000000, .ref 0], w, 0, 0)) rfl trivial ?_
  refine hx_k (l := 919) (m := 1) rfl rfl (by decide) (fun z1 h2 => ?_)
  refine hx_add (l := 920) rfl rfl (fun z3 h4 => ?_)
  replace h4 := h4 (by omega) (by omega)
  refine hx_fil (n := n) (f := xs) (l := 921) rfl rfl (hx_out hw (Nat.le_refl _)) (Nat.le_refl _) rfl (by omega) (by omega) (fun z5 h6 => ?_)
  refine ax_go 2 (y := (923, [some (.ref 1000000), some (.ref 0), some (.ref 95), some (.int i)], [.int i, .ref 1000000, .int z5, .ref 0], w, 0, 0)) rfl trivial ?_
  refine hx_k (l := 924) (m := 2) rfl rfl (by decide) (fun z7 h8 => ?_)
  refine hx_add (l := 925) rfl rfl (fun z9 h10 => ?_)
  replace h10 := h10 (by omega) (by omega)
  refine hx_fil (n := n) (f := xs) (l := 926) rfl rfl (hx_out hw (Nat.le_refl _)) (Nat.le_refl _) rfl (by omega) (by omega) (fun z11 h12 => ?_)
  obtain ⟨fs13, g14, -, q15⟩ := hx_obj hw hG0 (s := 1) rfl (by decide)
  refine hx_ci (l := 929) (as := [.ref 0, .int z5, .int z11]) rfl rfl (hx_iv (j := 109) (n := 2) (o := 0) (r := []) rfl rfl g14 rfl) (cc_X8_years_0 (fz := ([(1, 0), (30, 13)] : List (Nat × Nat))) (FA_same (G := G)) (fun d => h_X3_drawDays (fz := ([(1, 0), (30, 13)] : List (Nat × Nat))) (FA_same (G := G)) (by decide +kernel) d) (by decide +kernel) 103) hw hf ⟨(hx_tr (G := G) (s := 1) (b := 0) hG0 (by decide)), (ck_top_ok (G := G) z5), (ck_top_ok (G := G) z11), trivial⟩ (fun w16 z20 hw17 hf18 m19 a21 b22 u23 => ?_)
  have hb24 := lx_b hw17 m19 hG0 (by decide) hb
  have ht25 := lx_t hw17 m19 hGm (by decide) ht
  have hl26 : w16.length = w.length := m19.1.trans hl
  refine ax_go 4 (y := (933, [some (.ref 1000000), some (.ref 0), some (.ref 95), some (.int i)], [.int i, .ref 1000000, .ref 95], w16, 0, 0)) rfl trivial ?_
  refine hx_k (l := 934) (m := 1) rfl rfl (by decide) (fun z27 h28 => ?_)
  refine hx_add (l := 935) rfl rfl (fun z29 h30 => ?_)
  replace h30 := h30 (by omega) (by omega)
  refine hx_fil (n := n) (f := xs) (l := 936) rfl rfl (hx_out hw17 (Nat.le_refl _)) (Nat.le_refl _) rfl (by omega) (by omega) (fun z31 h32 => ?_)
  refine ax_go 2 (y := (938, [some (.ref 1000000), some (.ref 0), some (.ref 95), some (.int i)], [.int i, .ref 1000000, .int z31, .ref 95], w16, 0, 0)) rfl trivial ?_
  refine hx_k (l := 939) (m := 2) rfl rfl (by decide) (fun z33 h34 => ?_)
  refine hx_add (l := 940) rfl rfl (fun z35 h36 => ?_)
  replace h36 := h36 (by omega) (by omega)
  refine hx_fil (n := n) (f := xs) (l := 941) rfl rfl (hx_out hw17 (Nat.le_refl _)) (Nat.le_refl _) rfl (by omega) (by omega) (fun z37 h38 => ?_)
  obtain ⟨fs39, g40, -, q41⟩ := hx_obj hw17 hGm (s := 30) rfl (by decide)
  refine hx_ci (l := 944) (as := [.ref 95, .int z31, .int z37]) rfl rfl (hx_iv (j := 236) (n := 2) (o := 95) (r := []) rfl rfl g40 rfl) (cgM (h_X9_years (fz := ([(1, 0), (30, 13)] : List (Nat × Nat))) (FA_Ms (G := G)) (by decide +kernel) 12)) hw17 hf18 ⟨(hx_tr (G := G) (s := 30) (b := 0) hGm (by decide)), (ck_top_ok (G := G) z31), (ck_top_ok (G := G) z37), trivial⟩ (fun w42 z46 hw43 hf44 m45 a47 b48 u49 => ?_)
  have hb50 := lx_b hw43 m45 hG0 (by decide) hb24
  have ht51 := lx_t hw43 m45 hGm (by decide) ht25
  have hl52 : w42.length = w.length := m45.1.trans hl26
  refine ax_go 2 (y := (1063, [some (.ref 1000000), some (.ref 0), some (.ref 95), some (.int i)], [], w42, 0, 0)) rfl trivial ?_
  exact K w42 ⟨hw43, hf44, _, _, hb50, ht51, by omega⟩ hl52
set_option maxHeartbeats 4000000 in
theorem lc_30 {n : Nat} {xs : Nat → Int32} {Q : ab_O → Prop} {G : Nat → Nat} {w : ab_W} {i : Int32} (hn : n ≤ 3072) (h0 : 0 ≤ i.toInt) (h6 : i.toInt + 6 ≤ n) (hGE : GE G) (h : LI G w) (K : ∀ w1, LI G w1 → w1.length = w.length → lwq n xs Q (1063, [some (.ref 1000000), some (.ref 0), some (.ref 95), some (.int i)], [], w1, 0, 0)) : lwq n xs Q (948, [some (.ref 1000000), some (.ref 0), some (.ref 95), some (.int i)], [], w, 0, 0) := by
  obtain ⟨hG0, hGm, hU2, hU3⟩ := hGE
  obtain ⟨hw, hf, b, c, hb, ht, hbc⟩ := h
  have hl : w.length = w.length := rfl
  refine ax_go 3 (y := (951, [some (.ref 1000000), some (.ref 0), some (.ref 95), some (.int i)], [.int i, .ref 1000000, .ref 0], w, 0, 0)) rfl trivial ?_
  refine hx_k (l := 952) (m := 1) rfl rfl (by decide) (fun z1 h2 => ?_)
  refine hx_add (l := 953) rfl rfl (fun z3 h4 => ?_)
  replace h4 := h4 (by omega) (by omega)
  refine hx_fil (n := n) (f := xs) (l := 954) rfl rfl (hx_out hw (Nat.le_refl _)) (Nat.le_refl _) rfl (by omega) (by omega) (fun z5 h6 => ?_)
  refine ax_go 2 (y := (956, [some (.ref 1000000), some (.ref 0), some (.ref 95), some (.int i)], [.int i, .ref 1000000, .int z5, .ref 0], w, 0, 0)) rfl trivial ?_
  refine hx_k (l := 957) (m := 2) rfl rfl (by decide) (fun z7 h8 => ?_)
  refine hx_add (l := 958) rfl rfl (fun z9 h10 => ?_)
  replace h10 := h10 (by omega) (by omega)
  refine hx_fil (n := n) (f := xs) (l := 959) rfl rfl (hx_out hw (Nat.le_refl _)) (Nat.le_refl _) rfl (by omega) (by omega) (fun z11 h12 => ?_)
  obtain ⟨fs13, g14, -, q15⟩ := hx_obj hw hG0 (s := 1) rfl (by decide)
  refine hx_ci (l := 962) (as := [.ref 0, .int z5, .int z11]) rfl rfl (hx_iv (j := 110) (n := 2) (o := 0) (r := []) rfl rfl g14 rfl) (cc_X8_drawn_0 (fz := ([(1, 0), (30, 13)] : List (Nat × Nat))) (FA_same (G := G)) (fun d => h_X1_has1 (fz := ([(1, 0), (30, 13)] : List (Nat × Nat))) (FA_same (G := G)) (by decide +kernel) d) (by decide +kernel) 108) hw hf ⟨(hx_tr (G := G) (s := 1) (b := 0) hG0 (by decide)), (ck_top_ok (G := G) z5), (ck_top_ok (G := G) z11), trivial⟩ (fun w16 z20 hw17 hf18 m19 a21 b22 u23 => ?_)
  have hb24 := lx_b hw17 m19 hG0 (by decide) hb
  have ht25 := lx_t hw17 m19 hGm (by decide) ht
  have hl26 : w16.length = w.length := m19.1.trans hl
  refine ax_go 4 (y := (966, [some (.ref 1000000), some (.ref 0), some (.ref 95), some (.int i)], [.int i, .ref 1000000, .ref 95], w16, 0, 0)) rfl trivial ?_
  refine hx_k (l := 967) (m := 1) rfl rfl (by decide) (fun z27 h28 => ?_)
  refine hx_add (l := 968) rfl rfl (fun z29 h30 => ?_)
  replace h30 := h30 (by omega) (by omega)
  refine hx_fil (n := n) (f := xs) (l := 969) rfl rfl (hx_out hw17 (Nat.le_refl _)) (Nat.le_refl _) rfl (by omega) (by omega) (fun z31 h32 => ?_)
  refine ax_go 2 (y := (971, [some (.ref 1000000), some (.ref 0), some (.ref 95), some (.int i)], [.int i, .ref 1000000, .int z31, .ref 95], w16, 0, 0)) rfl trivial ?_
  refine hx_k (l := 972) (m := 2) rfl rfl (by decide) (fun z33 h34 => ?_)
  refine hx_add (l := 973) rfl rfl (fun z35 h36 => ?_)
  replace h36 := h36 (by omega) (by omega)
  refine hx_fil (n := n) (f := xs) (l := 974) rfl rfl (hx_out hw17 (Nat.le_refl _)) (Nat.le_refl _) rfl (by omega) (by omega) (fun z37 h38 => ?_)
  obtain ⟨fs39, g40, -, q41⟩ := hx_obj hw17 hGm (s := 30) rfl (by decide)
  refine hx_ci (l := 977) (as := [.ref 95, .int z31, .int z37]) rfl rfl (hx_iv (j := 237) (n := 2) (o := 95) (r := []) rfl rfl g40 rfl) (cc_X9_drawn_0 (fz := ([(1, 0), (30, 13)] : List (Nat × Nat))) (FA_same (G := G)) (fun d => h_X9_lies8 (fz := ([(1, 0), (30, 13)] : List (Nat × Nat))) (FA_same (G := G)) (by decide +kernel) d) (by decide +kernel) 108) hw17 hf18 ⟨(hx_tr (G := G) (s := 30) (b := 0) hGm (by decide)), (ck_top_ok (G := G) z31), (ck_top_ok (G := G) z37), trivial⟩ (fun w42 z46 hw43 hf44 m45 a47 b48 u49 => ?_)
  have hb50 := lx_b hw43 m45 hG0 (by decide) hb24
  have ht51 := lx_t hw43 m45 hGm (by decide) ht25
  have hl52 : w42.length = w.length := m45.1.trans hl26
  refine ax_go 2 (y := (1063, [some (.ref 1000000), some (.ref 0), some (.ref 95), some (.int i)], [], w42, 0, 0)) rfl trivial ?_
  exact K w42 ⟨hw43, hf44, _, _, hb50, ht51, by omega⟩ hl52
set_option maxHeartbeats 4000000 in
theorem lc_31 {n : Nat} {xs : Nat → Int32} {Q : ab_O → Prop} {G : Nat → Nat} {w : ab_W} {i : Int32} (hn : n ≤ 3072) (h0 : 0 ≤ i.toInt) (h6 : i.toInt + 6 ≤ n) (hGE : GE G) (h : LI G w) (K : ∀ w1, LI G w1 → w1.length = w.length → lwq n xs Q (1063, [some (.ref 1000000), some (.ref 0), some (.ref 95), some (.int i)], [], w1, 0, 0)) : lwq n xs Q (981, [some (.ref 1000000), some (.ref 0), some (.ref 95), some (.int i)], [], w, 0, 0) := by
  obtain ⟨hG0, hGm, hU2, hU3⟩ := hGE
  obtain ⟨hw, hf, b, c, hb, ht, hbc⟩ := h
  have hl : w.length = w.length := rfl
  refine ax_go 3 (y := (984, [some (.ref 1000000), some (.ref 0), some (.ref 95), some (.int i)], [.int i, .ref 1000000, .ref 0], w, 0, 0)) rfl trivial ?_
  refine hx_k (l := 985) (m := 1) rfl rfl (by decide) (fun z1 h2 => ?_)
  refine hx_add (l := 986) rfl rfl (fun z3 h4 => ?_)
  replace h4 := h4 (by omega) (by omega)
  refine hx_fil (n := n) (f := xs) (l := 987) rfl rfl (hx_out hw (Nat.le_refl _)) (Nat.le_refl _) rfl (by omega) (by omega) (fun z5 h6 => ?_)
  obtain ⟨fs7, g8, -, q9⟩ := hx_obj hw hG0 (s := 1) rfl (by decide)
  refine hx_pi (l := 990) (as := [.ref 0, .int z5]) rfl rfl (hx_iv (j := 111) (n := 1) (o := 0) (r := []) rfl rfl g8 rfl) (ht_X8_image (fz := ([(1, 0), (30, 13)] : List (Nat × Nat))) (FA_same (G := G)) (by decide +kernel) 108) hw hf ⟨(hx_tr (G := G) (s := 1) (b := 0) hG0 (by decide)), (ck_top_ok (G := G) z5), trivial⟩ trivial (fun w10 z14 hw11 hf12 m13 a15 b16 u17 => ?_)
  replace u17 := u17 _ _ _ rfl rfl
  have hb18 := lx_b hw11 m13 hG0 (by decide) hb
  have ht19 := lx_t hw11 m13 hGm (by decide) ht
  have hl20 : w10.length = w.length := m13.1.trans hl
  refine ax_go 3 (y := (993, [some (.ref 1000000), some (.ref 0), some (.ref 95), some (.int i)], [.int i, .ref 1000000, .ref 95, .int z14], w10, 0, 0)) rfl trivial ?_
  refine hx_k (l := 994) (m := 1) rfl rfl (by decide) (fun z21 h22 => ?_)
  refine hx_add (l := 995) rfl rfl (fun z23 h24 => ?_)
  replace h24 := h24 (by omega) (by omega)
  refine hx_fil (n := n) (f := xs) (l := 996) rfl rfl (hx_out hw11 (Nat.le_refl _)) (Nat.le_refl _) rfl (by omega) (by omega) (fun z25 h26 => ?_)
  have hE : z5.toInt = z25.toInt := by rw [h6, h26, show z3.toInt = z23.toInt by omega]
  obtain ⟨fs27, g28, -, q29⟩ := hx_obj hw11 hGm (s := 30) rfl (by decide)
  refine hx_pi (l := 999) (as := [.ref 95, .int z25]) rfl rfl (hx_iv (j := 131) (n := 1) (o := 95) (r := [.int z14]) rfl rfl g28 rfl) (cgMp (ht_X9_image (fz := ([(1, 0), (30, 13)] : List (Nat × Nat))) (FA_Ms (G := G)) hU3 (by decide +kernel) 108)) hw11 hf12 ⟨(hx_tr (G := G) (s := 30) (b := 0) hGm (by decide)), (ck_top_ok (G := G) z25), trivial⟩ trivial (fun w30 z34 hw31 hf32 m33 a35 b36 u37 => ?_)
  replace u37 := u37 _ _ _ rfl rfl
  have hb38 := lx_b hw31 m33 hG0 (by decide) hb18
  have ht39 := lx_t hw31 m33 hGm (by decide) ht19
  have hl40 : w30.length = w.length := m33.1.trans hl20
  refine hx_ic_eq (l := 1002) rfl rfl (fun h41 => ?_) (fun h41 => ?_)
  · -- 1063
    exact K w30 ⟨hw31, hf32, _, _, hb38, ht39, by omega⟩ hl40
  · -- 1002
    exfalso
    omega
set_option maxHeartbeats 4000000 in
theorem lc_32 {n : Nat} {xs : Nat → Int32} {Q : ab_O → Prop} {G : Nat → Nat} {w : ab_W} {i : Int32} (hn : n ≤ 3072) (h0 : 0 ≤ i.toInt) (h6 : i.toInt + 6 ≤ n) (hGE : GE G) (h : LI G w) (K : ∀ w1, LI G w1 → w1.length = w.length → lwq n xs Q (1063, [some (.ref 1000000), some (.ref 0), some (.ref 95), some (.int i)], [], w1, 0, 0)) : lwq n xs Q (1004, [some (.ref 1000000), some (.ref 0), some (.ref 95), some (.int i)], [], w, 0, 0) := by
  obtain ⟨hG0, hGm, hU2, hU3⟩ := hGE
  obtain ⟨hw, hf, b, c, hb, ht, hbc⟩ := h
  have hl : w.length = w.length := rfl
  refine ax_go 3 (y := (1007, [some (.ref 1000000), some (.ref 0), some (.ref 95), some (.int i)], [.int i, .ref 1000000, .ref 0], w, 0, 0)) rfl trivial ?_
  refine hx_k (l := 1008) (m := 1) rfl rfl (by decide) (fun z1 h2 => ?_)
  refine hx_add (l := 1009) rfl rfl (fun z3 h4 => ?_)
  replace h4 := h4 (by omega) (by omega)
  refine hx_fil (n := n) (f := xs) (l := 1010) rfl rfl (hx_out hw (Nat.le_refl _)) (Nat.le_refl _) rfl (by omega) (by omega) (fun z5 h6 => ?_)
  obtain ⟨fs7, g8, -, q9⟩ := hx_obj hw hG0 (s := 1) rfl (by decide)
  refine hx_ci (l := 1013) (as := [.ref 0, .int z5]) rfl rfl (hx_iv (j := 112) (n := 1) (o := 0) (r := []) rfl rfl g8 rfl) (cc_X8_back_0 (fz := ([(1, 0), (30, 13)] : List (Nat × Nat))) (FA_same (G := G))  (by decide +kernel) 108) hw hf ⟨(hx_tr (G := G) (s := 1) (b := 0) hG0 (by decide)), (ck_top_ok (G := G) z5), trivial⟩ (fun w10 z14 hw11 hf12 m13 a15 b16 u17 => ?_)
  have hb18 := lx_b hw11 m13 hG0 (by decide) hb
  have ht19 := lx_t hw11 m13 hGm (by decide) ht
  have hl20 : w10.length = w.length := m13.1.trans hl
  refine ax_go 4 (y := (1017, [some (.ref 1000000), some (.ref 0), some (.ref 95), some (.int i)], [.int i, .ref 1000000, .ref 95], w10, 0, 0)) rfl trivial ?_
  refine hx_k (l := 1018) (m := 1) rfl rfl (by decide) (fun z21 h22 => ?_)
  refine hx_add (l := 1019) rfl rfl (fun z23 h24 => ?_)
  replace h24 := h24 (by omega) (by omega)
  refine hx_fil (n := n) (f := xs) (l := 1020) rfl rfl (hx_out hw11 (Nat.le_refl _)) (Nat.le_refl _) rfl (by omega) (by omega) (fun z25 h26 => ?_)
  obtain ⟨fs27, g28, -, q29⟩ := hx_obj hw11 hGm (s := 30) rfl (by decide)
  refine hx_ci (l := 1023) (as := [.ref 95, .int z25]) rfl rfl (hx_iv (j := 132) (n := 1) (o := 95) (r := []) rfl rfl g28 rfl) (cgM (h_X9_back (fz := ([(1, 0), (30, 13)] : List (Nat × Nat))) (FA_Ns (G := G)) hU2 (by decide +kernel) 107)) hw11 hf12 ⟨(hx_tr (G := G) (s := 30) (b := 0) hGm (by decide)), (ck_top_ok (G := G) z25), trivial⟩ (fun w30 z34 hw31 hf32 m33 a35 b36 u37 => ?_)
  have hb38 := lx_b hw31 m33 hG0 (by decide) hb18
  have ht39 := lx_t hw31 m33 hGm (by decide) ht19
  have hl40 : w30.length = w.length := m33.1.trans hl20
  refine ax_go 2 (y := (1063, [some (.ref 1000000), some (.ref 0), some (.ref 95), some (.int i)], [], w30, 0, 0)) rfl trivial ?_
  exact K w30 ⟨hw31, hf32, _, _, hb38, ht39, by omega⟩ hl40
set_option maxHeartbeats 4000000 in
theorem lc_33 {n : Nat} {xs : Nat → Int32} {Q : ab_O → Prop} {G : Nat → Nat} {w : ab_W} {i : Int32} (hn : n ≤ 3072) (h0 : 0 ≤ i.toInt) (h6 : i.toInt + 6 ≤ n) (hGE : GE G) (h : LI G w) (K : ∀ w1, LI G w1 → w1.length = w.length → lwq n xs Q (1063, [some (.ref 1000000), some (.ref 0), some (.ref 95), some (.int i)], [], w1, 0, 0)) : lwq n xs Q (1027, [some (.ref 1000000), some (.ref 0), some (.ref 95), some (.int i)], [], w, 0, 0) := by
  obtain ⟨hG0, hGm, hU2, hU3⟩ := hGE
  obtain ⟨hw, hf, b, c, hb, ht, hbc⟩ := h
  have hl : w.length = w.length := rfl
  refine ax_go 3 (y := (1030, [some (.ref 1000000), some (.ref 0), some (.ref 95), some (.int i)], [.int i, .ref 1000000, .ref 0], w, 0, 0)) rfl trivial ?_
  refine hx_k (l := 1031) (m := 1) rfl rfl (by decide) (fun z1 h2 => ?_)
  refine hx_add (l := 1032) rfl rfl (fun z3 h4 => ?_)
  replace h4 := h4 (by omega) (by omega)
  refine hx_fil (n := n) (f := xs) (l := 1033) rfl rfl (hx_out hw (Nat.le_refl _)) (Nat.le_refl _) rfl (by omega) (by omega) (fun z5 h6 => ?_)
  obtain ⟨fs7, g8, -, q9⟩ := hx_obj hw hG0 (s := 1) rfl (by decide)
  refine hx_ci (l := 1036) (as := [.ref 0, .int z5]) rfl rfl (hx_iv (j := 113) (n := 1) (o := 0) (r := []) rfl rfl g8 rfl) (cc_X8_count_0 (fz := ([(1, 0), (30, 13)] : List (Nat × Nat))) (FA_same (G := G))  (by decide +kernel) 108) hw hf ⟨(hx_tr (G := G) (s := 1) (b := 0) hG0 (by decide)), (ck_top_ok (G := G) z5), trivial⟩ (fun w10 z14 hw11 hf12 m13 a15 b16 u17 => ?_)
  have hb18 := lx_b hw11 m13 hG0 (by decide) hb
  have ht19 := lx_t hw11 m13 hGm (by decide) ht
  have hl20 : w10.length = w.length := m13.1.trans hl
  refine ax_go 4 (y := (1040, [some (.ref 1000000), some (.ref 0), some (.ref 95), some (.int i)], [.int i, .ref 1000000, .ref 95], w10, 0, 0)) rfl trivial ?_
  refine hx_k (l := 1041) (m := 1) rfl rfl (by decide) (fun z21 h22 => ?_)
  refine hx_add (l := 1042) rfl rfl (fun z23 h24 => ?_)
  replace h24 := h24 (by omega) (by omega)
  refine hx_fil (n := n) (f := xs) (l := 1043) rfl rfl (hx_out hw11 (Nat.le_refl _)) (Nat.le_refl _) rfl (by omega) (by omega) (fun z25 h26 => ?_)
  obtain ⟨fs27, g28, -, q29⟩ := hx_obj hw11 hGm (s := 30) rfl (by decide)
  refine hx_ci (l := 1046) (as := [.ref 95, .int z25]) rfl rfl (hx_iv (j := 238) (n := 1) (o := 95) (r := []) rfl rfl g28 rfl) (cc_X9_count_0 (fz := ([(1, 0), (30, 13)] : List (Nat × Nat))) (FA_same (G := G))  (by decide +kernel) 108) hw11 hf12 ⟨(hx_tr (G := G) (s := 30) (b := 0) hGm (by decide)), (ck_top_ok (G := G) z25), trivial⟩ (fun w30 z34 hw31 hf32 m33 a35 b36 u37 => ?_)
  have hb38 := lx_b hw31 m33 hG0 (by decide) hb18
  have ht39 := lx_t hw31 m33 hGm (by decide) ht19
  have hl40 : w30.length = w.length := m33.1.trans hl20
  refine ax_go 2 (y := (1063, [some (.ref 1000000), some (.ref 0), some (.ref 95), some (.int i)], [], w30, 0, 0)) rfl trivial ?_
  exact K w30 ⟨hw31, hf32, _, _, hb38, ht39, by omega⟩ hl40
set_option maxHeartbeats 4000000 in
theorem lc_34 {n : Nat} {xs : Nat → Int32} {Q : ab_O → Prop} {G : Nat → Nat} {w : ab_W} {i : Int32} (hn : n ≤ 3072) (h0 : 0 ≤ i.toInt) (h6 : i.toInt + 6 ≤ n) (hGE : GE G) (h : LI G w) (K : ∀ w1, LI G w1 → w1.length = w.length → lwq n xs Q (1063, [some (.ref 1000000), some (.ref 0), some (.ref 95), some (.int i)], [], w1, 0, 0)) : lwq n xs Q (1050, [some (.ref 1000000), some (.ref 0), some (.ref 95), some (.int i)], [], w, 0, 0) := by
  obtain ⟨hG0, hGm, hU2, hU3⟩ := hGE
  obtain ⟨hw, hf, b, c, hb, ht, hbc⟩ := h
  have hl : w.length = w.length := rfl
  refine ax_go 1 (y := (1051, [some (.ref 1000000), some (.ref 0), some (.ref 95), some (.int i)], [.ref 0], w, 0, 0)) rfl trivial ?_
  obtain ⟨fs1, g2, -, q3⟩ := hx_obj hw hG0 (s := 1) rfl (by decide)
  refine hx_ci (l := 1054) (as := [.ref 0]) rfl rfl (hx_iv (j := 114) (n := 0) (o := 0) (r := []) rfl rfl g2 rfl) (cc_X8_status_0 (fz := ([(1, 0), (30, 13)] : List (Nat × Nat))) (FA_same (G := G))  (by decide +kernel) 109) hw hf ⟨(hx_tr (G := G) (s := 1) (b := 0) hG0 (by decide)), trivial⟩ (fun w4 z8 hw5 hf6 m7 a9 b10 u11 => ?_)
  have hb12 := lx_b hw5 m7 hG0 (by decide) hb
  have ht13 := lx_t hw5 m7 hGm (by decide) ht
  have hl14 : w4.length = w.length := m7.1.trans hl
  refine ax_go 2 (y := (1056, [some (.ref 1000000), some (.ref 0), some (.ref 95), some (.int i)], [.ref 95], w4, 0, 0)) rfl trivial ?_
  obtain ⟨fs15, g16, -, q17⟩ := hx_obj hw5 hGm (s := 30) rfl (by decide)
  refine hx_ci (l := 1059) (as := [.ref 95]) rfl rfl (hx_iv (j := 239) (n := 0) (o := 95) (r := []) rfl rfl g16 rfl) (cc_X9_status_0 (fz := ([(1, 0), (30, 13)] : List (Nat × Nat))) (FA_same (G := G))  (by decide +kernel) 109) hw5 hf6 ⟨(hx_tr (G := G) (s := 30) (b := 0) hGm (by decide)), trivial⟩ (fun w18 z22 hw19 hf20 m21 a23 b24 u25 => ?_)
  have hb26 := lx_b hw19 m21 hG0 (by decide) hb12
  have ht27 := lx_t hw19 m21 hGm (by decide) ht13
  have hl28 : w18.length = w.length := m21.1.trans hl14
  refine ax_go 2 (y := (1063, [some (.ref 1000000), some (.ref 0), some (.ref 95), some (.int i)], [], w18, 0, 0)) rfl trivial ?_
  exact K w18 ⟨hw19, hf20, _, _, hb26, ht27, by omega⟩ hl28
