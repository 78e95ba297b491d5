/-! the law: its cases, by program (1) -/
set_option maxHeartbeats 4000000 in
theorem lc_13 {n : Nat} {xs : Nat → Int32} {Q : ab_O → Prop} {G : Nat → Nat} {w : ab_W} {i : Int32} (hn : n ≤ 3072) (h0 : 0 ≤ i.toInt) (h6 : i.toInt + 6 ≤ n) (hGE : GE G) (h : LI G w) (K : ∀ w1, LI G w1 → w1.length = w.length → lwq n xs Q (1063, [some (.ref 1000000), some (.ref 0), some (.ref 95), some (.int i)], [], w1, 0, 0)) : lwq n xs Q (507, [some (.ref 1000000), some (.ref 0), some (.ref 95), some (.int i)], [], w, 0, 0) := by
  obtain ⟨hG0, hGm, hU2, hU3⟩ := hGE
  obtain ⟨hw, hf, b, c, hb, ht, hbc⟩ := h
  have hl : w.length = w.length := rfl
  refine ax_go 3 (y := (510, [some (.ref 1000000), some (.ref 0), some (.ref 95), some (.int i)], [.int i, .ref 1000000, .ref 0], w, 0, 0)) rfl trivial ?_
  refine hx_k (l := 511) (m := 1) rfl rfl (by decide) (fun z1 h2 => ?_)
  refine hx_add (l := 512) rfl rfl (fun z3 h4 => ?_)
  replace h4 := h4 (by omega) (by omega)
  refine hx_fil (n := n) (f := xs) (l := 513) rfl rfl (hx_out hw (Nat.le_refl _)) (Nat.le_refl _) rfl (by omega) (by omega) (fun z5 h6 => ?_)
  obtain ⟨fs7, g8, -, q9⟩ := hx_obj hw hG0 (s := 1) rfl (by decide)
  refine hx_ci (l := 516) (as := [.ref 0, .int z5]) rfl rfl (hx_iv (j := 93) (n := 1) (o := 0) (r := []) rfl rfl g8 rfl) (cc_X8_reckon_0 (fz := ([(1, 0), (30, 13)] : List (Nat × Nat))) (FA_same (G := G)) (fun d => h_X1_has0 (fz := ([(1, 0), (30, 13)] : List (Nat × Nat))) (FA_same (G := G)) (by decide +kernel) d) (fun d => h_X7_part0 (fz := ([(1, 0), (30, 13)] : List (Nat × Nat))) (FA_same (G := G)) (by decide +kernel) d) (fun d => h_X2_value0 (fz := ([(1, 0), (30, 13)] : List (Nat × Nat))) (FA_same (G := G)) (by decide +kernel) d) (fun d => cgP (h_X4_note (fz := ([(1, 0), (30, 13)] : List (Nat × Nat))) (FA_Ps (G := G)) (by decide +kernel) d)) (fun d => h_X1_passDay1 (fz := ([(1, 0), (30, 13)] : List (Nat × Nat))) (FA_same (G := G)) (by decide +kernel) d) (by decide +kernel) 102) hw hf ⟨(hx_tr (G := G) (s := 1) (b := 0) hG0 (by decide)), (ck_top_ok (G := G) z5), trivial⟩ (fun w10 z14 hw11 hf12 m13 a15 b16 u17 => ?_)
  have hb18 := lx_b hw11 m13 hG0 (by decide) hb
  have ht19 := lx_t hw11 m13 hGm (by decide) ht
  have hl20 : w10.length = w.length := m13.1.trans hl
  refine ax_go 4 (y := (520, [some (.ref 1000000), some (.ref 0), some (.ref 95), some (.int i)], [.int i, .ref 1000000, .ref 95], w10, 0, 0)) rfl trivial ?_
  refine hx_k (l := 521) (m := 1) rfl rfl (by decide) (fun z21 h22 => ?_)
  refine hx_add (l := 522) rfl rfl (fun z23 h24 => ?_)
  replace h24 := h24 (by omega) (by omega)
  refine hx_fil (n := n) (f := xs) (l := 523) rfl rfl (hx_out hw11 (Nat.le_refl _)) (Nat.le_refl _) rfl (by omega) (by omega) (fun z25 h26 => ?_)
  obtain ⟨fs27, g28, -, q29⟩ := hx_obj hw11 hGm (s := 30) rfl (by decide)
  refine hx_ci (l := 526) (as := [.ref 95, .int z25]) rfl rfl (hx_iv (j := 203) (n := 1) (o := 95) (r := []) rfl rfl g28 rfl) (cc_X9_reckon_0 (fz := ([(1, 0), (30, 13)] : List (Nat × Nat))) (FA_same (G := G)) (fun d => cgM (h_X9_isParish (fz := ([(1, 0), (30, 13)] : List (Nat × Nat))) (FA_Ms (G := G)) (by decide +kernel) d)) (fun d => cgM (h_X9_walkersOf (fz := ([(1, 0), (30, 13)] : List (Nat × Nat))) (FA_Ms (G := G)) (by decide +kernel) (d + 27))) (fun d => cgM (h_X9_isBarred (fz := ([(1, 0), (30, 13)] : List (Nat × Nat))) (FA_Ms (G := G)) (by decide +kernel) (d + 27))) (fun d => cgM (h_X9_keeps (fz := ([(1, 0), (30, 13)] : List (Nat × Nat))) (FA_Ms (G := G)) (by decide +kernel) d)) (fun d => cgM (h_X9_reckons (fz := ([(1, 0), (30, 13)] : List (Nat × Nat))) (FA_Ms (G := G)) (by decide +kernel) (d + 24))) (by decide +kernel) 14) hw11 hf12 ⟨(hx_tr (G := G) (s := 30) (b := 0) hGm (by decide)), (ck_top_ok (G := G) z25), trivial⟩ (fun w30 z34 hw31 hf32 m33 a35 b36 u37 => ?_)
  have hb38 := lx_b hw31 m33 hG0 (by decide) hb18
  have ht39 := lx_t hw31 m33 hGm (by decide) ht19
  have hl40 : w30.length = w.length := m33.1.trans hl20
  refine ax_go 2 (y := (1063, [some (.ref 1000000), some (.ref 0), some (.ref 95), some (.int i)], [], w30, 0, 0)) rfl trivial ?_
  exact K w30 ⟨hw31, hf32, _, _, hb38, ht39, by omega⟩ hl40
set_option maxHeartbeats 4000000 in
theorem lc_14 {n : Nat} {xs : Nat → Int32} {Q : ab_O → Prop} {G : Nat → Nat} {w : ab_W} {i : Int32} (hn : n ≤ 3072) (h0 : 0 ≤ i.toInt) (h6 : i.toInt + 6 ≤ n) (hGE : GE G) (h : LI G w) (K : ∀ w1, LI G w1 → w1.length = w.length → lwq n xs Q (1063, [some (.ref 1000000), some (.ref 0), some (.ref 95), some (.int i)], [], w1, 0, 0)) : lwq n xs Q (530, [some (.ref 1000000), some (.ref 0), some (.ref 95), some (.int i)], [], w, 0, 0) := by
  obtain ⟨hG0, hGm, hU2, hU3⟩ := hGE
  obtain ⟨hw, hf, b, c, hb, ht, hbc⟩ := h
  have hl : w.length = w.length := rfl
  refine ax_go 1 (y := (531, [some (.ref 1000000), some (.ref 0), some (.ref 95), some (.int i)], [.ref 0], w, 0, 0)) rfl trivial ?_
  obtain ⟨fs1, g2, -, q3⟩ := hx_obj hw hG0 (s := 1) rfl (by decide)
  refine hx_ci (l := 534) (as := [.ref 0]) rfl rfl (hx_iv (j := 94) (n := 0) (o := 0) (r := []) rfl rfl g2 rfl) (cc_X8_pass_0 (fz := ([(1, 0), (30, 13)] : List (Nat × Nat))) (FA_same (G := G)) (fun d => h_X1_has0 (fz := ([(1, 0), (30, 13)] : List (Nat × Nat))) (FA_same (G := G)) (by decide +kernel) d) (fun d => h_X7_part0 (fz := ([(1, 0), (30, 13)] : List (Nat × Nat))) (FA_same (G := G)) (by decide +kernel) d) (fun d => h_X2_value0 (fz := ([(1, 0), (30, 13)] : List (Nat × Nat))) (FA_same (G := G)) (by decide +kernel) d) (fun d => cgP (h_X4_note (fz := ([(1, 0), (30, 13)] : List (Nat × Nat))) (FA_Ps (G := G)) (by decide +kernel) d)) (fun d => h_X1_passDay1 (fz := ([(1, 0), (30, 13)] : List (Nat × Nat))) (FA_same (G := G)) (by decide +kernel) d) (by decide +kernel) 102) hw hf ⟨(hx_tr (G := G) (s := 1) (b := 0) hG0 (by decide)), trivial⟩ (fun w4 z8 hw5 hf6 m7 a9 b10 u11 => ?_)
  have hb12 := lx_b hw5 m7 hG0 (by decide) hb
  have ht13 := lx_t hw5 m7 hGm (by decide) ht
  have hl14 : w4.length = w.length := m7.1.trans hl
  refine ax_go 2 (y := (536, [some (.ref 1000000), some (.ref 0), some (.ref 95), some (.int i)], [.ref 95], w4, 0, 0)) rfl trivial ?_
  obtain ⟨fs15, g16, -, q17⟩ := hx_obj hw5 hGm (s := 30) rfl (by decide)
  refine hx_ci (l := 539) (as := [.ref 95]) rfl rfl (hx_iv (j := 204) (n := 0) (o := 95) (r := []) rfl rfl g16 rfl) (cc_X9_pass_0 (fz := ([(1, 0), (30, 13)] : List (Nat × Nat))) (FA_same (G := G)) (fun d => cgM (h_X9_keeps (fz := ([(1, 0), (30, 13)] : List (Nat × Nat))) (FA_Ms (G := G)) (by decide +kernel) d)) (fun d => cgM (h_X9_dayPasses (fz := ([(1, 0), (30, 13)] : List (Nat × Nat))) (FA_Ms (G := G)) (by decide +kernel) d)) (by decide +kernel) 105) hw5 hf6 ⟨(hx_tr (G := G) (s := 30) (b := 0) hGm (by decide)), trivial⟩ (fun w18 z22 hw19 hf20 m21 a23 b24 u25 => ?_)
  have hb26 := lx_b hw19 m21 hG0 (by decide) hb12
  have ht27 := lx_t hw19 m21 hGm (by decide) ht13
  have hl28 : w18.length = w.length := m21.1.trans hl14
  refine ax_go 2 (y := (1063, [some (.ref 1000000), some (.ref 0), some (.ref 95), some (.int i)], [], w18, 0, 0)) rfl trivial ?_
  exact K w18 ⟨hw19, hf20, _, _, hb26, ht27, by omega⟩ hl28
set_option maxHeartbeats 4000000 in
theorem lc_15 {n : Nat} {xs : Nat → Int32} {Q : ab_O → Prop} {G : Nat → Nat} {w : ab_W} {i : Int32} (hn : n ≤ 3072) (h0 : 0 ≤ i.toInt) (h6 : i.toInt + 6 ≤ n) (hGE : GE G) (h : LI G w) (K : ∀ w1, LI G w1 → w1.length = w.length → lwq n xs Q (1063, [some (.ref 1000000), some (.ref 0), some (.ref 95), some (.int i)], [], w1, 0, 0)) : lwq n xs Q (543, [some (.ref 1000000), some (.ref 0), some (.ref 95), some (.int i)], [], w, 0, 0) := by
  obtain ⟨hG0, hGm, hU2, hU3⟩ := hGE
  obtain ⟨hw, hf, b, c, hb, ht, hbc⟩ := h
  have hl : w.length = w.length := rfl
  refine ax_go 3 (y := (546, [some (.ref 1000000), some (.ref 0), some (.ref 95), some (.int i)], [.int i, .ref 1000000, .ref 0], w, 0, 0)) rfl trivial ?_
  refine hx_k (l := 547) (m := 1) rfl rfl (by decide) (fun z1 h2 => ?_)
  refine hx_add (l := 548) rfl rfl (fun z3 h4 => ?_)
  replace h4 := h4 (by omega) (by omega)
  refine hx_fil (n := n) (f := xs) (l := 549) rfl rfl (hx_out hw (Nat.le_refl _)) (Nat.le_refl _) rfl (by omega) (by omega) (fun z5 h6 => ?_)
  refine ax_go 2 (y := (551, [some (.ref 1000000), some (.ref 0), some (.ref 95), some (.int i)], [.int i, .ref 1000000, .int z5, .ref 0], w, 0, 0)) rfl trivial ?_
  refine hx_k (l := 552) (m := 2) rfl rfl (by decide) (fun z7 h8 => ?_)
  refine hx_add (l := 553) rfl rfl (fun z9 h10 => ?_)
  replace h10 := h10 (by omega) (by omega)
  refine hx_fil (n := n) (f := xs) (l := 554) rfl rfl (hx_out hw (Nat.le_refl _)) (Nat.le_refl _) rfl (by omega) (by omega) (fun z11 h12 => ?_)
  refine ax_go 2 (y := (556, [some (.ref 1000000), some (.ref 0), some (.ref 95), some (.int i)], [.int i, .ref 1000000, .int z11, .int z5, .ref 0], w, 0, 0)) rfl trivial ?_
  refine hx_k (l := 557) (m := 3) rfl rfl (by decide) (fun z13 h14 => ?_)
  refine hx_add (l := 558) rfl rfl (fun z15 h16 => ?_)
  replace h16 := h16 (by omega) (by omega)
  refine hx_fil (n := n) (f := xs) (l := 559) rfl rfl (hx_out hw (Nat.le_refl _)) (Nat.le_refl _) rfl (by omega) (by omega) (fun z17 h18 => ?_)
  obtain ⟨fs19, g20, -, q21⟩ := hx_obj hw hG0 (s := 1) rfl (by decide)
  refine hx_ci (l := 562) (as := [.ref 0, .int z5, .int z11, .int z17]) rfl rfl (hx_iv (j := 95) (n := 3) (o := 0) (r := []) rfl rfl g20 rfl) (cc_X8_lend_0 (fz := ([(1, 0), (30, 13)] : List (Nat × Nat))) (FA_same (G := G)) (fun d => h_X1_has0 (fz := ([(1, 0), (30, 13)] : List (Nat × Nat))) (FA_same (G := G)) (by decide +kernel) d) (fun d => h_X7_part0 (fz := ([(1, 0), (30, 13)] : List (Nat × Nat))) (FA_same (G := G)) (by decide +kernel) d) (fun d => h_X2_value0 (fz := ([(1, 0), (30, 13)] : List (Nat × Nat))) (FA_same (G := G)) (by decide +kernel) d) (fun d => cgP (h_X4_note (fz := ([(1, 0), (30, 13)] : List (Nat × Nat))) (FA_Ps (G := G)) (by decide +kernel) d)) (fun d => h_X1_passDay1 (fz := ([(1, 0), (30, 13)] : List (Nat × Nat))) (FA_same (G := G)) (by decide +kernel) d) (by decide +kernel) 102) hw hf ⟨(hx_tr (G := G) (s := 1) (b := 0) hG0 (by decide)), (ck_top_ok (G := G) z5), (ck_top_ok (G := G) z11), (ck_top_ok (G := G) z17), trivial⟩ (fun w22 z26 hw23 hf24 m25 a27 b28 u29 => ?_)
  have hb30 := lx_b hw23 m25 hG0 (by decide) hb
  have ht31 := lx_t hw23 m25 hGm (by decide) ht
  have hl32 : w22.length = w.length := m25.1.trans hl
  refine ax_go 4 (y := (566, [some (.ref 1000000), some (.ref 0), some (.ref 95), some (.int i)], [.int i, .ref 1000000, .ref 95], w22, 0, 0)) rfl trivial ?_
  refine hx_k (l := 567) (m := 1) rfl rfl (by decide) (fun z33 h34 => ?_)
  refine hx_add (l := 568) rfl rfl (fun z35 h36 => ?_)
  replace h36 := h36 (by omega) (by omega)
  refine hx_fil (n := n) (f := xs) (l := 569) rfl rfl (hx_out hw23 (Nat.le_refl _)) (Nat.le_refl _) rfl (by omega) (by omega) (fun z37 h38 => ?_)
  refine ax_go 2 (y := (571, [some (.ref 1000000), some (.ref 0), some (.ref 95), some (.int i)], [.int i, .ref 1000000, .int z37, .ref 95], w22, 0, 0)) rfl trivial ?_
  refine hx_k (l := 572) (m := 2) rfl rfl (by decide) (fun z39 h40 => ?_)
  refine hx_add (l := 573) rfl rfl (fun z41 h42 => ?_)
  replace h42 := h42 (by omega) (by omega)
  refine hx_fil (n := n) (f := xs) (l := 574) rfl rfl (hx_out hw23 (Nat.le_refl _)) (Nat.le_refl _) rfl (by omega) (by omega) (fun z43 h44 => ?_)
  refine ax_go 2 (y := (576, [some (.ref 1000000), some (.ref 0), some (.ref 95), some (.int i)], [.int i, .ref 1000000, .int z43, .int z37, .ref 95], w22, 0, 0)) rfl trivial ?_
  refine hx_k (l := 577) (m := 3) rfl rfl (by decide) (fun z45 h46 => ?_)
  refine hx_add (l := 578) rfl rfl (fun z47 h48 => ?_)
  replace h48 := h48 (by omega) (by omega)
  refine hx_fil (n := n) (f := xs) (l := 579) rfl rfl (hx_out hw23 (Nat.le_refl _)) (Nat.le_refl _) rfl (by omega) (by omega) (fun z49 h50 => ?_)
  obtain ⟨fs51, g52, -, q53⟩ := hx_obj hw23 hGm (s := 30) rfl (by decide)
  refine hx_ci (l := 582) (as := [.ref 95, .int z37, .int z43, .int z49]) rfl rfl (hx_iv (j := 205) (n := 3) (o := 95) (r := []) rfl rfl g52 rfl) (cc_X9_lend_0 (fz := ([(1, 0), (30, 13)] : List (Nat × Nat))) (FA_same (G := G)) (fun d => cgM (h_X9_lendsKept (fz := ([(1, 0), (30, 13)] : List (Nat × Nat))) (FA_Ms (G := G)) (by decide +kernel) d)) (by decide +kernel) 106) hw23 hf24 ⟨(hx_tr (G := G) (s := 30) (b := 0) hGm (by decide)), (ck_top_ok (G := G) z37), (ck_top_ok (G := G) z43), (ck_top_ok (G := G) z49), trivial⟩ (fun w54 z58 hw55 hf56 m57 a59 b60 u61 => ?_)
  have hb62 := lx_b hw55 m57 hG0 (by decide) hb30
  have ht63 := lx_t hw55 m57 hGm (by decide) ht31
  have hl64 : w54.length = w.length := m57.1.trans hl32
  refine ax_go 2 (y := (1063, [some (.ref 1000000), some (.ref 0), some (.ref 95), some (.int i)], [], w54, 0, 0)) rfl trivial ?_
  exact K w54 ⟨hw55, hf56, _, _, hb62, ht63, by omega⟩ hl64
set_option maxHeartbeats 4000000 in
theorem lc_16 {n : Nat} {xs : Nat → Int32} {Q : ab_O → Prop} {G : Nat → Nat} {w : ab_W} {i : Int32} (hn : n ≤ 3072) (h0 : 0 ≤ i.toInt) (h6 : i.toInt + 6 ≤ n) (hGE : GE G) (h : LI G w) (K : ∀ w1, LI G w1 → w1.length = w.length → lwq n xs Q (1063, [some (.ref 1000000), some (.ref 0), some (.ref 95), some (.int i)], [], w1, 0, 0)) : lwq n xs Q (586, [some (.ref 1000000), some (.ref 0), some (.ref 95), some (.int i)], [], w, 0, 0) := by
  obtain ⟨hG0, hGm, hU2, hU3⟩ := hGE
  obtain ⟨hw, hf, b, c, hb, ht, hbc⟩ := h
  have hl : w.length = w.length := rfl
  refine ax_go 3 (y := (589, [some (.ref 1000000), some (.ref 0), some (.ref 95), some (.int i)], [.int i, .ref 1000000, .ref 0], w, 0, 0)) rfl trivial ?_
  refine hx_k (l := 590) (m := 1) rfl rfl (by decide) (fun z1 h2 => ?_)
  refine hx_add (l := 591) rfl rfl (fun z3 h4 => ?_)
  replace h4 := h4 (by omega) (by omega)
  refine hx_fil (n := n) (f := xs) (l := 592) rfl rfl (hx_out hw (Nat.le_refl _)) (Nat.le_refl _) rfl (by omega) (by omega) (fun z5 h6 => ?_)
  refine ax_go 2 (y := (594, [some (.ref 1000000), some (.ref 0), some (.ref 95), some (.int i)], [.int i, .ref 1000000, .int z5, .ref 0], w, 0, 0)) rfl trivial ?_
  refine hx_k (l := 595) (m := 2) rfl rfl (by decide) (fun z7 h8 => ?_)
  refine hx_add (l := 596) rfl rfl (fun z9 h10 => ?_)
  replace h10 := h10 (by omega) (by omega)
  refine hx_fil (n := n) (f := xs) (l := 597) rfl rfl (hx_out hw (Nat.le_refl _)) (Nat.le_refl _) rfl (by omega) (by omega) (fun z11 h12 => ?_)
  obtain ⟨fs13, g14, -, q15⟩ := hx_obj hw hG0 (s := 1) rfl (by decide)
  refine hx_ci (l := 600) (as := [.ref 0, .int z5, .int z11]) rfl rfl (hx_iv (j := 96) (n := 2) (o := 0) (r := []) rfl rfl g14 rfl) (cc_X8_grow_0 (fz := ([(1, 0), (30, 13)] : List (Nat × Nat))) (FA_same (G := G)) (fun d => h_X1_has0 (fz := ([(1, 0), (30, 13)] : List (Nat × Nat))) (FA_same (G := G)) (by decide +kernel) d) (fun d => h_X7_part0 (fz := ([(1, 0), (30, 13)] : List (Nat × Nat))) (FA_same (G := G)) (by decide +kernel) d) (fun d => h_X2_value0 (fz := ([(1, 0), (30, 13)] : List (Nat × Nat))) (FA_same (G := G)) (by decide +kernel) d) (fun d => cgP (h_X4_note (fz := ([(1, 0), (30, 13)] : List (Nat × Nat))) (FA_Ps (G := G)) (by decide +kernel) d)) (fun d => h_X1_passDay1 (fz := ([(1, 0), (30, 13)] : List (Nat × Nat))) (FA_same (G := G)) (by decide +kernel) d) (by decide +kernel) 102) hw hf ⟨(hx_tr (G := G) (s := 1) (b := 0) hG0 (by decide)), (ck_top_ok (G := G) z5), (ck_top_ok (G := G) z11), trivial⟩ (fun w16 z20 hw17 hf18 m19 a21 b22 u23 => ?_)
  have hb24 := lx_b hw17 m19 hG0 (by decide) hb
  have ht25 := lx_t hw17 m19 hGm (by decide) ht
  have hl26 : w16.length = w.length := m19.1.trans hl
  refine ax_go 4 (y := (604, [some (.ref 1000000), some (.ref 0), some (.ref 95), some (.int i)], [.int i, .ref 1000000, .ref 95], w16, 0, 0)) rfl trivial ?_
  refine hx_k (l := 605) (m := 1) rfl rfl (by decide) (fun z27 h28 => ?_)
  refine hx_add (l := 606) rfl rfl (fun z29 h30 => ?_)
  replace h30 := h30 (by omega) (by omega)
  refine hx_fil (n := n) (f := xs) (l := 607) rfl rfl (hx_out hw17 (Nat.le_refl _)) (Nat.le_refl _) rfl (by omega) (by omega) (fun z31 h32 => ?_)
  refine ax_go 2 (y := (609, [some (.ref 1000000), some (.ref 0), some (.ref 95), some (.int i)], [.int i, .ref 1000000, .int z31, .ref 95], w16, 0, 0)) rfl trivial ?_
  refine hx_k (l := 610) (m := 2) rfl rfl (by decide) (fun z33 h34 => ?_)
  refine hx_add (l := 611) rfl rfl (fun z35 h36 => ?_)
  replace h36 := h36 (by omega) (by omega)
  refine hx_fil (n := n) (f := xs) (l := 612) rfl rfl (hx_out hw17 (Nat.le_refl _)) (Nat.le_refl _) rfl (by omega) (by omega) (fun z37 h38 => ?_)
  obtain ⟨fs39, g40, -, q41⟩ := hx_obj hw17 hGm (s := 30) rfl (by decide)
  refine hx_ci (l := 615) (as := [.ref 95, .int z31, .int z37]) rfl rfl (hx_iv (j := 206) (n := 2) (o := 95) (r := []) rfl rfl g40 rfl) (cc_X9_grow_0 (fz := ([(1, 0), (30, 13)] : List (Nat × Nat))) (FA_same (G := G)) (fun d => cgM (h_X9_growsKept (fz := ([(1, 0), (30, 13)] : List (Nat × Nat))) (FA_Ms (G := G)) (by decide +kernel) d)) (by decide +kernel) 106) hw17 hf18 ⟨(hx_tr (G := G) (s := 30) (b := 0) hGm (by decide)), (ck_top_ok (G := G) z31), (ck_top_ok (G := G) z37), trivial⟩ (fun w42 z46 hw43 hf44 m45 a47 b48 u49 => ?_)
  have hb50 := lx_b hw43 m45 hG0 (by decide) hb24
  have ht51 := lx_t hw43 m45 hGm (by decide) ht25
  have hl52 : w42.length = w.length := m45.1.trans hl26
  refine ax_go 2 (y := (1063, [some (.ref 1000000), some (.ref 0), some (.ref 95), some (.int i)], [], w42, 0, 0)) rfl trivial ?_
  exact K w42 ⟨hw43, hf44, _, _, hb50, ht51, by omega⟩ hl52
set_option maxHeartbeats 4000000 in
theorem lc_17 {n : Nat} {xs : Nat → Int32} {Q : ab_O → Prop} {G : Nat → Nat} {w : ab_W} {i : Int32} (hn : n ≤ 3072) (h0 : 0 ≤ i.toInt) (h6 : i.toInt + 6 ≤ n) (hGE : GE G) (h : LI G w) (K : ∀ w1, LI G w1 → w1.length = w.length → lwq n xs Q (1063, [some (.ref 1000000), some (.ref 0), some (.ref 95), some (.int i)], [], w1, 0, 0)) : lwq n xs Q (619, [some (.ref 1000000), some (.ref 0), some (.ref 95), some (.int i)], [], w, 0, 0) := by
  obtain ⟨hG0, hGm, hU2, hU3⟩ := hGE
  obtain ⟨hw, hf, b, c, hb, ht, hbc⟩ := h
  have hl : w.length = w.length := rfl
  refine ax_go 1 (y := (620, [some (.ref 1000000), some (.ref 0), some (.ref 95), some (.int i)], [.ref 0], w, 0, 0)) rfl trivial ?_
  obtain ⟨fs1, g2, -, q3⟩ := hx_obj hw hG0 (s := 1) rfl (by decide)
  refine hx_ci (l := 623) (as := [.ref 0]) rfl rfl (hx_iv (j := 97) (n := 0) (o := 0) (r := []) rfl rfl g2 rfl) (cc_X8_undo_0 (fz := ([(1, 0), (30, 13)] : List (Nat × Nat))) (FA_same (G := G)) (fun d => cgP (h_X4_takeBack (fz := ([(1, 0), (30, 13)] : List (Nat × Nat))) (FA_Ps (G := G)) (by decide +kernel) d)) (by decide +kernel) 107) hw hf ⟨(hx_tr (G := G) (s := 1) (b := 0) hG0 (by decide)), trivial⟩ (fun w4 z8 hw5 hf6 m7 a9 b10 u11 => ?_)
  have hb12 := lx_b hw5 m7 hG0 (by decide) hb
  have ht13 := lx_t hw5 m7 hGm (by decide) ht
  have hl14 : w4.length = w.length := m7.1.trans hl
  refine ax_go 2 (y := (625, [some (.ref 1000000), some (.ref 0), some (.ref 95), some (.int i)], [.ref 95], w4, 0, 0)) rfl trivial ?_
  obtain ⟨fs15, g16, -, q17⟩ := hx_obj hw5 hGm (s := 30) rfl (by decide)
  refine hx_ci (l := 628) (as := [.ref 95]) rfl rfl (hx_iv (j := 196) (n := 0) (o := 95) (r := []) rfl rfl g16 rfl) (cgM (h_X9_undo (fz := ([(1, 0), (30, 13)] : List (Nat × Nat))) (FA_Ms (G := G)) (by decide +kernel) 108)) hw5 hf6 ⟨(hx_tr (G := G) (s := 30) (b := 0) hGm (by decide)), trivial⟩ (fun w18 z22 hw19 hf20 m21 a23 b24 u25 => ?_)
  have hb26 := lx_b hw19 m21 hG0 (by decide) hb12
  have ht27 := lx_t hw19 m21 hGm (by decide) ht13
  have hl28 : w18.length = w.length := m21.1.trans hl14
  refine ax_go 2 (y := (1063, [some (.ref 1000000), some (.ref 0), some (.ref 95), some (.int i)], [], w18, 0, 0)) rfl trivial ?_
  exact K w18 ⟨hw19, hf20, _, _, hb26, ht27, by omega⟩ hl28
set_option maxHeartbeats 4000000 in
theorem lc_18 {n : Nat} {xs : Nat → Int32} {Q : ab_O → Prop} {G : Nat → Nat} {w : ab_W} {i : Int32} (hn : n ≤ 3072) (h0 : 0 ≤ i.toInt) (h6 : i.toInt + 6 ≤ n) (hGE : GE G) (h : LI G w) (K : ∀ w1, LI G w1 → w1.length = w.length → lwq n xs Q (1063, [some (.ref 1000000), some (.ref 0), some (.ref 95), some (.int i)], [], w1, 0, 0)) : lwq n xs Q (632, [some (.ref 1000000), some (.ref 0), some (.ref 95), some (.int i)], [], w, 0, 0) := by
  obtain ⟨hG0, hGm, hU2, hU3⟩ := hGE
  obtain ⟨hw, hf, b, c, hb, ht, hbc⟩ := h
  have hl : w.length = w.length := rfl
  refine ax_go 3 (y := (635, [some (.ref 1000000), some (.ref 0), some (.ref 95), some (.int i)], [.int i, .ref 1000000, .ref 0], w, 0, 0)) rfl trivial ?_
  refine hx_k (l := 636) (m := 1) rfl rfl (by decide) (fun z1 h2 => ?_)
  refine hx_add (l := 637) rfl rfl (fun z3 h4 => ?_)
  replace h4 := h4 (by omega) (by omega)
  refine hx_fil (n := n) (f := xs) (l := 638) rfl rfl (hx_out hw (Nat.le_refl _)) (Nat.le_refl _) rfl (by omega) (by omega) (fun z5 h6 => ?_)
  obtain ⟨fs7, g8, -, q9⟩ := hx_obj hw hG0 (s := 1) rfl (by decide)
  refine hx_ci (l := 641) (as := [.ref 0, .int z5]) rfl rfl (hx_iv (j := 98) (n := 1) (o := 0) (r := []) rfl rfl g8 rfl) (cc_X8_once_0 (fz := ([(1, 0), (30, 13)] : List (Nat × Nat))) (FA_same (G := G)) (fun d => h_X1_has0 (fz := ([(1, 0), (30, 13)] : List (Nat × Nat))) (FA_same (G := G)) (by decide +kernel) d) (fun d => h_X7_part0 (fz := ([(1, 0), (30, 13)] : List (Nat × Nat))) (FA_same (G := G)) (by decide +kernel) d) (fun d => h_X2_value0 (fz := ([(1, 0), (30, 13)] : List (Nat × Nat))) (FA_same (G := G)) (by decide +kernel) d) (fun d => h_X1_has1 (fz := ([(1, 0), (30, 13)] : List (Nat × Nat))) (FA_same (G := G)) (by decide +kernel) d) (by decide +kernel) 104) hw hf ⟨(hx_tr (G := G) (s := 1) (b := 0) hG0 (by decide)), (ck_top_ok (G := G) z5), trivial⟩ (fun w10 z14 hw11 hf12 m13 a15 b16 u17 => ?_)
  have hb18 := lx_b hw11 m13 hG0 (by decide) hb
  have ht19 := lx_t hw11 m13 hGm (by decide) ht
  have hl20 : w10.length = w.length := m13.1.trans hl
  refine ax_go 4 (y := (645, [some (.ref 1000000), some (.ref 0), some (.ref 95), some (.int i)], [.int i, .ref 1000000, .ref 95], w10, 0, 0)) rfl trivial ?_
  refine hx_k (l := 646) (m := 1) rfl rfl (by decide) (fun z21 h22 => ?_)
  refine hx_add (l := 647) rfl rfl (fun z23 h24 => ?_)
  replace h24 := h24 (by omega) (by omega)
  refine hx_fil (n := n) (f := xs) (l := 648) rfl rfl (hx_out hw11 (Nat.le_refl _)) (Nat.le_refl _) rfl (by omega) (by omega) (fun z25 h26 => ?_)
  obtain ⟨fs27, g28, -, q29⟩ := hx_obj hw11 hGm (s := 30) rfl (by decide)
  refine hx_ci (l := 651) (as := [.ref 95, .int z25]) rfl rfl (hx_iv (j := 209) (n := 1) (o := 95) (r := []) rfl rfl g28 rfl) (cc_X9_once_0 (fz := ([(1, 0), (30, 13)] : List (Nat × Nat))) (FA_same (G := G)) (fun d => cgM (h_X9_isParish (fz := ([(1, 0), (30, 13)] : List (Nat × Nat))) (FA_Ms (G := G)) (by decide +kernel) d)) (fun d => cgM (h_X9_onceWith0 (fz := ([(1, 0), (30, 13)] : List (Nat × Nat))) (FA_Ms (G := G)) (by decide +kernel) (d + 22))) (by decide +kernel) 13) hw11 hf12 ⟨(hx_tr (G := G) (s := 30) (b := 0) hGm (by decide)), (ck_top_ok (G := G) z25), trivial⟩ (fun w30 z34 hw31 hf32 m33 a35 b36 u37 => ?_)
  have hb38 := lx_b hw31 m33 hG0 (by decide) hb18
  have ht39 := lx_t hw31 m33 hGm (by decide) ht19
  have hl40 : w30.length = w.length := m33.1.trans hl20
  refine ax_go 2 (y := (1063, [some (.ref 1000000), some (.ref 0), some (.ref 95), some (.int i)], [], w30, 0, 0)) rfl trivial ?_
  exact K w30 ⟨hw31, hf32, _, _, hb38, ht39, by omega⟩ hl40
set_option maxHeartbeats 4000000 in
theorem lc_19 {n : Nat} {xs : Nat → Int32} {Q : ab_O → Prop} {G : Nat → Nat} {w : ab_W} {i : Int32} (hn : n ≤ 3072) (h0 : 0 ≤ i.toInt) (h6 : i.toInt + 6 ≤ n) (hGE : GE G) (h : LI G w) (K : ∀ w1, LI G w1 → w1.length = w.length → lwq n xs Q (1063, [some (.ref 1000000), some (.ref 0), some (.ref 95), some (.int i)], [], w1, 0, 0)) : lwq n xs Q (655, [some (.ref 1000000), some (.ref 0), some (.ref 95), some (.int i)], [], w, 0, 0) := by
  obtain ⟨hG0, hGm, hU2, hU3⟩ := hGE
  obtain ⟨hw, hf, b, c, hb, ht, hbc⟩ := h
  have hl : w.length = w.length := rfl
  refine ax_go 3 (y := (658, [some (.ref 1000000), some (.ref 0), some (.ref 95), some (.int i)], [.int i, .ref 1000000, .ref 0], w, 0, 0)) rfl trivial ?_
  refine hx_k (l := 659) (m := 1) rfl rfl (by decide) (fun z1 h2 => ?_)
  refine hx_add (l := 660) rfl rfl (fun z3 h4 => ?_)
  replace h4 := h4 (by omega) (by omega)
  refine hx_fil (n := n) (f := xs) (l := 661) rfl rfl (hx_out hw (Nat.le_refl _)) (Nat.le_refl _) rfl (by omega) (by omega) (fun z5 h6 => ?_)
  obtain ⟨fs7, g8, -, q9⟩ := hx_obj hw hG0 (s := 1) rfl (by decide)
  refine hx_ci (l := 664) (as := [.ref 0, .int z5]) rfl rfl (hx_iv (j := 99) (n := 1) (o := 0) (r := []) rfl rfl g8 rfl) (cc_X8_fewest_0 (fz := ([(1, 0), (30, 13)] : List (Nat × Nat))) (FA_same (G := G)) (fun d => h_X7_part0 (fz := ([(1, 0), (30, 13)] : List (Nat × Nat))) (FA_same (G := G)) (by decide +kernel) d) (fun d => h_X2_value0 (fz := ([(1, 0), (30, 13)] : List (Nat × Nat))) (FA_same (G := G)) (by decide +kernel) d) (fun d => h_X1_has1 (fz := ([(1, 0), (30, 13)] : List (Nat × Nat))) (FA_same (G := G)) (by decide +kernel) d) (by decide +kernel) 103) hw hf ⟨(hx_tr (G := G) (s := 1) (b := 0) hG0 (by decide)), (ck_top_ok (G := G) z5), trivial⟩ (fun w10 z14 hw11 hf12 m13 a15 b16 u17 => ?_)
  have hb18 := lx_b hw11 m13 hG0 (by decide) hb
  have ht19 := lx_t hw11 m13 hGm (by decide) ht
  have hl20 : w10.length = w.length := m13.1.trans hl
  refine ax_go 4 (y := (668, [some (.ref 1000000), some (.ref 0), some (.ref 95), some (.int i)], [.int i, .ref 1000000, .ref 95], w10, 0, 0)) rfl trivial ?_
  refine hx_k (l := 669) (m := 1) rfl rfl (by decide) (fun z21 h22 => ?_)
  refine hx_add (l := 670) rfl rfl (fun z23 h24 => ?_)
  replace h24 := h24 (by omega) (by omega)
  refine hx_fil (n := n) (f := xs) (l := 671) rfl rfl (hx_out hw11 (Nat.le_refl _)) (Nat.le_refl _) rfl (by omega) (by omega) (fun z25 h26 => ?_)
  obtain ⟨fs27, g28, -, q29⟩ := hx_obj hw11 hGm (s := 30) rfl (by decide)
  refine hx_ci (l := 674) (as := [.ref 95, .int z25]) rfl rfl (hx_iv (j := 211) (n := 1) (o := 95) (r := []) rfl rfl g28 rfl) (cc_X9_fewest_0 (fz := ([(1, 0), (30, 13)] : List (Nat × Nat))) (FA_same (G := G)) (fun d => cgM (h_X9_walkersOf (fz := ([(1, 0), (30, 13)] : List (Nat × Nat))) (FA_Ms (G := G)) (by decide +kernel) (d + 27))) (fun d => cgM (h_X9_isBarred (fz := ([(1, 0), (30, 13)] : List (Nat × Nat))) (FA_Ms (G := G)) (by decide +kernel) (d + 27))) (fun d => h_X9_lies3 (fz := ([(1, 0), (30, 13)] : List (Nat × Nat))) (FA_same (G := G)) (by decide +kernel) d) (fun d => cgM (h_X9_laysAside (fz := ([(1, 0), (30, 13)] : List (Nat × Nat))) (FA_Ms (G := G)) (by decide +kernel) d)) (fun d => cgM (h_X9_arrives (fz := ([(1, 0), (30, 13)] : List (Nat × Nat))) (FA_Ms (G := G)) (by decide +kernel) d)) (fun d => cgM (h_X9_takesBack (fz := ([(1, 0), (30, 13)] : List (Nat × Nat))) (FA_Ms (G := G)) (by decide +kernel) d)) (by decide +kernel) 16) hw11 hf12 ⟨(hx_tr (G := G) (s := 30) (b := 0) hGm (by decide)), (ck_top_ok (G := G) z25), trivial⟩ (fun w30 z34 hw31 hf32 m33 a35 b36 u37 => ?_)
  have hb38 := lx_b hw31 m33 hG0 (by decide) hb18
  have ht39 := lx_t hw31 m33 hGm (by decide) ht19
  have hl40 : w30.length = w.length := m33.1.trans hl20
  refine ax_go 2 (y := (1063, [some (.ref 1000000), some (.ref 0), some (.ref 95), some (.int i)], [], w30, 0, 0)) rfl trivial ?_
  exact K w30 ⟨hw31, hf32, _, _, hb38, ht39, by omega⟩ hl40
set_option maxHeartbeats 4000000 in
theorem lc_20 {n : Nat} {xs : Nat → Int32} {Q : ab_O → Prop} {G : Nat → Nat} {w : ab_W} {i : Int32} (hn : n ≤ 3072) (h0 : 0 ≤ i.toInt) (h6 : i.toInt + 6 ≤ n) (hGE : GE G) (h : LI G w) (K : ∀ w1, LI G w1 → w1.length = w.length → lwq n xs Q (1063, [some (.ref 1000000), some (.ref 0), some (.ref 95), some (.int i)], [], w1, 0, 0)) : lwq n xs Q (678, [some (.ref 1000000), some (.ref 0), some (.ref 95), some (.int i)], [], w, 0, 0) := by
  obtain ⟨hG0, hGm, hU2, hU3⟩ := hGE
  obtain ⟨hw, hf, b, c, hb, ht, hbc⟩ := h
  have hl : w.length = w.length := rfl
  refine ax_go 3 (y := (681, [some (.ref 1000000), some (.ref 0), some (.ref 95), some (.int i)], [.int i, .ref 1000000, .ref 0], w, 0, 0)) rfl trivial ?_
  refine hx_k (l := 682) (m := 1) rfl rfl (by decide) (fun z1 h2 => ?_)
  refine hx_add (l := 683) rfl rfl (fun z3 h4 => ?_)
  replace h4 := h4 (by omega) (by omega)
  refine hx_fil (n := n) (f := xs) (l := 684) rfl rfl (hx_out hw (Nat.le_refl _)) (Nat.le_refl _) rfl (by omega) (by omega) (fun z5 h6 => ?_)
  obtain ⟨fs7, g8, -, q9⟩ := hx_obj hw hG0 (s := 1) rfl (by decide)
  refine hx_ci (l := 687) (as := [.ref 0, .int z5]) rfl rfl (hx_iv (j := 100) (n := 1) (o := 0) (r := []) rfl rfl g8 rfl) (cc_X8_lent_0 (fz := ([(1, 0), (30, 13)] : List (Nat × Nat))) (FA_same (G := G)) (fun d => h_X1_has0 (fz := ([(1, 0), (30, 13)] : List (Nat × Nat))) (FA_same (G := G)) (by decide +kernel) d) (by decide +kernel) 107) hw hf ⟨(hx_tr (G := G) (s := 1) (b := 0) hG0 (by decide)), (ck_top_ok (G := G) z5), trivial⟩ (fun w10 z14 hw11 hf12 m13 a15 b16 u17 => ?_)
  have hb18 := lx_b hw11 m13 hG0 (by decide) hb
  have ht19 := lx_t hw11 m13 hGm (by decide) ht
  have hl20 : w10.length = w.length := m13.1.trans hl
  refine ax_go 4 (y := (691, [some (.ref 1000000), some (.ref 0), some (.ref 95), some (.int i)], [.int i, .ref 1000000, .ref 95], w10, 0, 0)) rfl trivial ?_
  refine hx_k (l := 692) (m := 1) rfl rfl (by decide) (fun z21 h22 => ?_)
  refine hx_add (l := 693) rfl rfl (fun z23 h24 => ?_)
  replace h24 := h24 (by omega) (by omega)
  refine hx_fil (n := n) (f := xs) (l := 694) rfl rfl (hx_out hw11 (Nat.le_refl _)) (Nat.le_refl _) rfl (by omega) (by omega) (fun z25 h26 => ?_)
  obtain ⟨fs27, g28, -, q29⟩ := hx_obj hw11 hGm (s := 30) rfl (by decide)
  refine hx_ci (l := 697) (as := [.ref 95, .int z25]) rfl rfl (hx_iv (j := 214) (n := 1) (o := 95) (r := []) rfl rfl g28 rfl) (cc_X9_lent_0 (fz := ([(1, 0), (30, 13)] : List (Nat × Nat))) (FA_same (G := G)) (fun d => h_X9_lies4 (fz := ([(1, 0), (30, 13)] : List (Nat × Nat))) (FA_same (G := G)) (by decide +kernel) d) (by decide +kernel) 108) hw11 hf12 ⟨(hx_tr (G := G) (s := 30) (b := 0) hGm (by decide)), (ck_top_ok (G := G) z25), trivial⟩ (fun w30 z34 hw31 hf32 m33 a35 b36 u37 => ?_)
  have hb38 := lx_b hw31 m33 hG0 (by decide) hb18
  have ht39 := lx_t hw31 m33 hGm (by decide) ht19
  have hl40 : w30.length = w.length := m33.1.trans hl20
  refine ax_go 2 (y := (1063, [some (.ref 1000000), some (.ref 0), some (.ref 95), some (.int i)], [], w30, 0, 0)) rfl trivial ?_
  exact K w30 ⟨hw31, hf32, _, _, hb38, ht39, by omega⟩ hl40
set_option maxHeartbeats 4000000 in
theorem lc_21 {n : Nat} {xs : Nat → Int32} {Q : ab_O → Prop} {G : Nat → Nat} {w : ab_W} {i : Int32} (hn : n ≤ 3072) (h0 : 0 ≤ i.toInt) (h6 : i.toInt + 6 ≤ n) (hGE : GE G) (h : LI G w) (K : ∀ w1, LI G w1 → w1.length = w.length → lwq n xs Q (1063, [some (.ref 1000000), some (.ref 0), some (.ref 95), some (.int i)], [], w1, 0, 0)) : lwq n xs Q (701, [some (.ref 1000000), some (.ref 0), some (.ref 95), some (.int i)], [], w, 0, 0) := by
  obtain ⟨hG0, hGm, hU2, hU3⟩ := hGE
  obtain ⟨hw, hf, b, c, hb, ht, hbc⟩ := h
  have hl : w.length = w.length := rfl
  refine ax_go 3 (y := (704, [some (.ref 1000000), some (.ref 0), some (.ref 95), some (.int i)], [.int i, .ref 1000000, .ref 0], w, 0, 0)) rfl trivial ?_
  refine hx_k (l := 705) (m := 1) rfl rfl (by decide) (fun z1 h2 => ?_)
  refine hx_add (l := 706) rfl rfl (fun z3 h4 => ?_)
  replace h4 := h4 (by omega) (by omega)
  refine hx_fil (n := n) (f := xs) (l := 707) rfl rfl (hx_out hw (Nat.le_refl _)) (Nat.le_refl _) rfl (by omega) (by omega) (fun z5 h6 => ?_)
  refine ax_go 2 (y := (709, [some (.ref 1000000), some (.ref 0), some (.ref 95), some (.int i)], [.int i, .ref 1000000, .int z5, .ref 0], w, 0, 0)) rfl trivial ?_
  refine hx_k (l := 710) (m := 2) rfl rfl (by decide) (fun z7 h8 => ?_)
  refine hx_add (l := 711) rfl rfl (fun z9 h10 => ?_)
  replace h10 := h10 (by omega) (by omega)
  refine hx_fil (n := n) (f := xs) (l := 712) rfl rfl (hx_out hw (Nat.le_refl _)) (Nat.le_refl _) rfl (by omega) (by omega) (fun z11 h12 => ?_)
  refine ax_go 2 (y := (714, [some (.ref 1000000), some (.ref 0), some (.ref 95), some (.int i)], [.int i, .ref 1000000, .int z11, .int z5, .ref 0], w, 0, 0)) rfl trivial ?_
  refine hx_k (l := 715) (m := 3) rfl rfl (by decide) (fun z13 h14 => ?_)
  refine hx_add (l := 716) rfl rfl (fun z15 h16 => ?_)
  replace h16 := h16 (by omega) (by omega)
  refine hx_fil (n := n) (f := xs) (l := 717) rfl rfl (hx_out hw (Nat.le_refl _)) (Nat.le_refl _) rfl (by omega) (by omega) (fun z17 h18 => ?_)
  obtain ⟨fs19, g20, -, q21⟩ := hx_obj hw hG0 (s := 1) rfl (by decide)
  refine hx_cj (l := 720) (as := [.ref 0, .int z5, .int z11, .int z17]) rfl rfl (hx_iv (j := 101) (n := 3) (o := 0) (r := []) rfl rfl g20 rfl) (h_X8_odds (fz := ([(1, 0), (30, 13)] : List (Nat × Nat))) (FA_same (G := G)) (by decide +kernel) 104) hw hf ⟨(hx_tr (G := G) (s := 1) (b := 0) hG0 (by decide)), (ck_top_ok (G := G) z5), (ck_top_ok (G := G) z11), (ck_top_ok (G := G) z17), trivial⟩ (fun w22 z26 hw23 hf24 m25 => ?_)
  have hb30 := lx_b hw23 m25 hG0 (by decide) hb
  have ht31 := lx_t hw23 m25 hGm (by decide) ht
  have hl32 : w22.length = w.length := m25.1.trans hl
  refine ax_go 1 (y := (721, [some (.ref 1000000), some (.ref 0), some (.ref 95), some (.int i)], [], w22, 0, 0)) rfl trivial ?_
  refine ax_go 3 (y := (724, [some (.ref 1000000), some (.ref 0), some (.ref 95), some (.int i)], [.int i, .ref 1000000, .ref 95], w22, 0, 0)) rfl trivial ?_
  refine hx_k (l := 725) (m := 1) rfl rfl (by decide) (fun z33 h34 => ?_)
  refine hx_add (l := 726) rfl rfl (fun z35 h36 => ?_)
  replace h36 := h36 (by omega) (by omega)
  refine hx_fil (n := n) (f := xs) (l := 727) rfl rfl (hx_out hw23 (Nat.le_refl _)) (Nat.le_refl _) rfl (by omega) (by omega) (fun z37 h38 => ?_)
  refine ax_go 2 (y := (729, [some (.ref 1000000), some (.ref 0), some (.ref 95), some (.int i)], [.int i, .ref 1000000, .int z37, .ref 95], w22, 0, 0)) rfl trivial ?_
  refine hx_k (l := 730) (m := 2) rfl rfl (by decide) (fun z39 h40 => ?_)
  refine hx_add (l := 731) rfl rfl (fun z41 h42 => ?_)
  replace h42 := h42 (by omega) (by omega)
  refine hx_fil (n := n) (f := xs) (l := 732) rfl rfl (hx_out hw23 (Nat.le_refl _)) (Nat.le_refl _) rfl (by omega) (by omega) (fun z43 h44 => ?_)
  refine ax_go 2 (y := (734, [some (.ref 1000000), some (.ref 0), some (.ref 95), some (.int i)], [.int i, .ref 1000000, .int z43, .int z37, .ref 95], w22, 0, 0)) rfl trivial ?_
  refine hx_k (l := 735) (m := 3) rfl rfl (by decide) (fun z45 h46 => ?_)
  refine hx_add (l := 736) rfl rfl (fun z47 h48 => ?_)
  replace h48 := h48 (by omega) (by omega)
  refine hx_fil (n := n) (f := xs) (l := 737) rfl rfl (hx_out hw23 (Nat.le_refl _)) (Nat.le_refl _) rfl (by omega) (by omega) (fun z49 h50 => ?_)
  obtain ⟨fs51, g52, -, q53⟩ := hx_obj hw23 hGm (s := 30) rfl (by decide)
  refine hx_cj (l := 740) (as := [.ref 95, .int z37, .int z43, .int z49]) rfl rfl (hx_iv (j := 216) (n := 3) (o := 95) (r := []) rfl rfl g52 rfl) (cc_X9_odds_0 (fz := ([(1, 0), (30, 13)] : List (Nat × Nat))) (FA_same (G := G)) (fun d => cgM (h_X9_isParish (fz := ([(1, 0), (30, 13)] : List (Nat × Nat))) (FA_Ms (G := G)) (by decide +kernel) d)) (fun d => cgM (h_X9_tensOf (fz := ([(1, 0), (30, 13)] : List (Nat × Nat))) (FA_Ms (G := G)) (by decide +kernel) (d + 27))) (fun d => cgM (h_X9_overOf (fz := ([(1, 0), (30, 13)] : List (Nat × Nat))) (FA_Ms (G := G)) (by decide +kernel) (d + 27))) (fun d => h_X9_lies5 (fz := ([(1, 0), (30, 13)] : List (Nat × Nat))) (FA_same (G := G)) (by decide +kernel) d) (fun d => h_X9_lies6 (fz := ([(1, 0), (30, 13)] : List (Nat × Nat))) (FA_same (G := G)) (by decide +kernel) d) (by decide +kernel) 18) hw23 hf24 ⟨(hx_tr (G := G) (s := 30) (b := 0) hGm (by decide)), (ck_top_ok (G := G) z37), (ck_top_ok (G := G) z43), (ck_top_ok (G := G) z49), trivial⟩ (fun w54 z58 hw55 hf56 m57 => ?_)
  have hb62 := lx_b hw55 m57 hG0 (by decide) hb30
  have ht63 := lx_t hw55 m57 hGm (by decide) ht31
  have hl64 : w54.length = w.length := m57.1.trans hl32
  refine ax_go 1 (y := (741, [some (.ref 1000000), some (.ref 0), some (.ref 95), some (.int i)], [], w54, 0, 0)) rfl trivial ?_
  refine ax_go 1 (y := (1063, [some (.ref 1000000), some (.ref 0), some (.ref 95), some (.int i)], [], w54, 0, 0)) rfl trivial ?_
  exact K w54 ⟨hw55, hf56, _, _, hb62, ht63, by omega⟩ hl64
set_option maxHeartbeats 4000000 in
theorem lc_22 {n : Nat} {xs : Nat → Int32} {Q : ab_O → Prop} {G : Nat → Nat} {w : ab_W} {i : Int32} (hn : n ≤ 3072) (h0 : 0 ≤ i.toInt) (h6 : i.toInt + 6 ≤ n) (hGE : GE G) (h : LI G w) (K : ∀ w1, LI G w1 → w1.length = w.length → lwq n xs Q (1063, [some (.ref 1000000), some (.ref 0), some (.ref 95), some (.int i)], [], w1, 0, 0)) : lwq n xs Q (744, [some (.ref 1000000), some (.ref 0), some (.ref 95), some (.int i)], [], w, 0, 0) := by
  obtain ⟨hG0, hGm, hU2, hU3⟩ := hGE
  obtain ⟨hw, hf, b, c, hb, ht, hbc⟩ := h
  have hl : w.length = w.length := rfl
  refine ax_go 3 (y := (747, [some (.ref 1000000), some (.ref 0), some (.ref 95), some (.int i)], [.int i, .ref 1000000, .ref 0], w, 0, 0)) rfl trivial ?_
  refine hx_k (l := 748) (m := 1) rfl rfl (by decide) (fun z1 h2 => ?_)
  refine hx_add (l := 749) rfl rfl (fun z3 h4 => ?_)
  replace h4 := h4 (by omega) (by omega)
  refine hx_fil (n := n) (f := xs) (l := 750) rfl rfl (hx_out hw (Nat.le_refl _)) (Nat.le_refl _) rfl (by omega) (by omega) (fun z5 h6 => ?_)
  obtain ⟨fs7, g8, -, q9⟩ := hx_obj hw hG0 (s := 1) rfl (by decide)
  refine hx_ci (l := 753) (as := [.ref 0, .int z5]) rfl rfl (hx_iv (j := 102) (n := 1) (o := 0) (r := []) rfl rfl g8 rfl) (cc_X8_best_0 (fz := ([(1, 0), (30, 13)] : List (Nat × Nat))) (FA_same (G := G)) (fun d => h_X7_part0 (fz := ([(1, 0), (30, 13)] : List (Nat × Nat))) (FA_same (G := G)) (by decide +kernel) d) (fun d => h_X2_value0 (fz := ([(1, 0), (30, 13)] : List (Nat × Nat))) (FA_same (G := G)) (by decide +kernel) d) (fun d => h_X1_has1 (fz := ([(1, 0), (30, 13)] : List (Nat × Nat))) (FA_same (G := G)) (by decide +kernel) d) (by decide +kernel) 103) hw hf ⟨(hx_tr (G := G) (s := 1) (b := 0) hG0 (by decide)), (ck_top_ok (G := G) z5), trivial⟩ (fun w10 z14 hw11 hf12 m13 a15 b16 u17 => ?_)
  have hb18 := lx_b hw11 m13 hG0 (by decide) hb
  have ht19 := lx_t hw11 m13 hGm (by decide) ht
  have hl20 : w10.length = w.length := m13.1.trans hl
  refine ax_go 4 (y := (757, [some (.ref 1000000), some (.ref 0), some (.ref 95), some (.int i)], [.int i, .ref 1000000, .ref 95], w10, 0, 0)) rfl trivial ?_
  refine hx_k (l := 758) (m := 1) rfl rfl (by decide) (fun z21 h22 => ?_)
  refine hx_add (l := 759) rfl rfl (fun z23 h24 => ?_)
  replace h24 := h24 (by omega) (by omega)
  refine hx_fil (n := n) (f := xs) (l := 760) rfl rfl (hx_out hw11 (Nat.le_refl _)) (Nat.le_refl _) rfl (by omega) (by omega) (fun z25 h26 => ?_)
  obtain ⟨fs27, g28, -, q29⟩ := hx_obj hw11 hGm (s := 30) rfl (by decide)
  refine hx_ci (l := 763) (as := [.ref 95, .int z25]) rfl rfl (hx_iv (j := 217) (n := 1) (o := 95) (r := []) rfl rfl g28 rfl) (cc_X9_best_0 (fz := ([(1, 0), (30, 13)] : List (Nat × Nat))) (FA_same (G := G)) (fun d => cgM (h_X9_onceWith0 (fz := ([(1, 0), (30, 13)] : List (Nat × Nat))) (FA_Ms (G := G)) (by decide +kernel) (d + 22))) (fun d => h_X9_lies3 (fz := ([(1, 0), (30, 13)] : List (Nat × Nat))) (FA_same (G := G)) (by decide +kernel) d) (by decide +kernel) 13) hw11 hf12 ⟨(hx_tr (G := G) (s := 30) (b := 0) hGm (by decide)), (ck_top_ok (G := G) z25), trivial⟩ (fun w30 z34 hw31 hf32 m33 a35 b36 u37 => ?_)
  have hb38 := lx_b hw31 m33 hG0 (by decide) hb18
  have ht39 := lx_t hw31 m33 hGm (by decide) ht19
  have hl40 : w30.length = w.length := m33.1.trans hl20
  refine ax_go 2 (y := (1063, [some (.ref 1000000), some (.ref 0), some (.ref 95), some (.int i)], [], w30, 0, 0)) rfl trivial ?_
  exact K w30 ⟨hw31, hf32, _, _, hb38, ht39, by omega⟩ hl40
set_option maxHeartbeats 4000000 in
theorem lc_23 {n : Nat} {xs : Nat → Int32} {Q : ab_O → Prop} {G : Nat → Nat} {w : ab_W} {i : Int32} (hn : n ≤ 3072) (h0 : 0 ≤ i.toInt) (h6 : i.toInt + 6 ≤ n) (hGE : GE G) (h : LI G w) (K : ∀ w1, LI G w1 → w1.length = w.length → lwq n xs Q (1063, [some (.ref 1000000), some (.ref 0), some (.ref 95), some (.int i)], [], w1, 0, 0)) : lwq n xs Q (767, [some (.ref 1000000), some (.ref 0), some (.ref 95), some (.int i)], [], w, 0, 0) := by
  obtain ⟨hG0, hGm, hU2, hU3⟩ := hGE
  obtain ⟨hw, hf, b, c, hb, ht, hbc⟩ := h
  have hl : w.length = w.length := rfl
  refine ax_go 3 (y := (770, [some (.ref 1000000), some (.ref 0), some (.ref 95), some (.int i)], [.int i, .ref 1000000, .ref 0], w, 0, 0)) rfl trivial ?_
  refine hx_k (l := 771) (m := 1) rfl rfl (by decide) (fun z1 h2 => ?_)
  refine hx_add (l := 772) rfl rfl (fun z3 h4 => ?_)
  replace h4 := h4 (by omega) (by omega)
  refine hx_fil (n := n) (f := xs) (l := 773) rfl rfl (hx_out hw (Nat.le_refl _)) (Nat.le_refl _) rfl (by omega) (by omega) (fun z5 h6 => ?_)
  refine ax_go 2 (y := (775, [some (.ref 1000000), some (.ref 0), some (.ref 95), some (.int i)], [.int i, .ref 1000000, .int z5, .ref 0], w, 0, 0)) rfl trivial ?_
  refine hx_k (l := 776) (m := 2) rfl rfl (by decide) (fun z7 h8 => ?_)
  refine hx_add (l := 777) rfl rfl (fun z9 h10 => ?_)
  replace h10 := h10 (by omega) (by omega)
  refine hx_fil (n := n) (f := xs) (l := 778) rfl rfl (hx_out hw (Nat.le_refl _)) (Nat.le_refl _) rfl (by omega) (by omega) (fun z11 h12 => ?_)
  obtain ⟨fs13, g14, -, q15⟩ := hx_obj hw hG0 (s := 1) rfl (by decide)
  refine hx_ci (l := 781) (as := [.ref 0, .int z5, .int z11]) rfl rfl (hx_iv (j := 103) (n := 2) (o := 0) (r := []) rfl rfl g14 rfl) (h_X8_hear (fz := ([(1, 0), (30, 13)] : List (Nat × Nat))) (FA_same (G := G)) (by decide +kernel) 108) hw hf ⟨(hx_tr (G := G) (s := 1) (b := 0) hG0 (by decide)), (ck_top_ok (G := G) z5), (ck_top_ok (G := G) z11), trivial⟩ (fun w16 z20 hw17 hf18 m19 a21 b22 u23 => ?_)
  have hb24 := lx_b hw17 m19 hG0 (by decide) hb
  have ht25 := lx_t hw17 m19 hGm (by decide) ht
  have hl26 : w16.length = w.length := m19.1.trans hl
  refine ax_go 4 (y := (785, [some (.ref 1000000), some (.ref 0), some (.ref 95), some (.int i)], [.int i, .ref 1000000, .ref 95], w16, 0, 0)) rfl trivial ?_
  refine hx_k (l := 786) (m := 1) rfl rfl (by decide) (fun z27 h28 => ?_)
  refine hx_add (l := 787) rfl rfl (fun z29 h30 => ?_)
  replace h30 := h30 (by omega) (by omega)
  refine hx_fil (n := n) (f := xs) (l := 788) rfl rfl (hx_out hw17 (Nat.le_refl _)) (Nat.le_refl _) rfl (by omega) (by omega) (fun z31 h32 => ?_)
  refine ax_go 2 (y := (790, [some (.ref 1000000), some (.ref 0), some (.ref 95), some (.int i)], [.int i, .ref 1000000, .int z31, .ref 95], w16, 0, 0)) rfl trivial ?_
  refine hx_k (l := 791) (m := 2) rfl rfl (by decide) (fun z33 h34 => ?_)
  refine hx_add (l := 792) rfl rfl (fun z35 h36 => ?_)
  replace h36 := h36 (by omega) (by omega)
  refine hx_fil (n := n) (f := xs) (l := 793) rfl rfl (hx_out hw17 (Nat.le_refl _)) (Nat.le_refl _) rfl (by omega) (by omega) (fun z37 h38 => ?_)
  obtain ⟨fs39, g40, -, q41⟩ := hx_obj hw17 hGm (s := 30) rfl (by decide)
  refine hx_ci (l := 796) (as := [.ref 95, .int z31, .int z37]) rfl rfl (hx_iv (j := 218) (n := 2) (o := 95) (r := []) rfl rfl g40 rfl) (cgM (h_X9_hear (fz := ([(1, 0), (30, 13)] : List (Nat × Nat))) (FA_Ms (G := G)) (by decide +kernel) 107)) hw17 hf18 ⟨(hx_tr (G := G) (s := 30) (b := 0) hGm (by decide)), (ck_top_ok (G := G) z31), (ck_top_ok (G := G) z37), trivial⟩ (fun w42 z46 hw43 hf44 m45 a47 b48 u49 => ?_)
  have hb50 := lx_b hw43 m45 hG0 (by decide) hb24
  have ht51 := lx_t hw43 m45 hGm (by decide) ht25
  have hl52 : w42.length = w.length := m45.1.trans hl26
  refine ax_go 2 (y := (1063, [some (.ref 1000000), some (.ref 0), some (.ref 95), some (.int i)], [], w42, 0, 0)) rfl trivial ?_
  exact K w42 ⟨hw43, hf44, _, _, hb50, ht51, by omega⟩ hl52
set_option maxHeartbeats 4000000 in
theorem lc_24 {n : Nat} {xs : Nat → Int32} {Q : ab_O → Prop} {G : Nat → Nat} {w : ab_W} {i : Int32} (hn : n ≤ 3072) (h0 : 0 ≤ i.toInt) (h6 : i.toInt + 6 ≤ n) (hGE : GE G) (h : LI G w) (K : ∀ w1, LI G w1 → w1.length = w.length → lwq n xs Q (1063, [some (.ref 1000000), some (.ref 0), some (.ref 95), some (.int i)], [], w1, 0, 0)) : lwq n xs Q (800, [some (.ref 1000000), some (.ref 0), some (.ref 95), some (.int i)], [], w, 0, 0) := by
  obtain ⟨hG0, hGm, hU2, hU3⟩ := hGE
  obtain ⟨hw, hf, b, c, hb, ht, hbc⟩ := h
  have hl : w.length = w.length := rfl
  refine ax_go 1 (y := (801, [some (.ref 1000000), some (.ref 0), some (.ref 95), some (.int i)], [.ref 0], w, 0, 0)) rfl trivial ?_
  obtain ⟨fs1, g2, -, q3⟩ := hx_obj hw hG0 (s := 1) rfl (by decide)
  refine hx_ci (l := 804) (as := [.ref 0]) rfl rfl (hx_iv (j := 104) (n := 0) (o := 0) (r := []) rfl rfl g2 rfl) (cc_X8_forget_0 (fz := ([(1, 0), (30, 13)] : List (Nat × Nat))) (FA_same (G := G))  (by decide +kernel) 109) hw hf ⟨(hx_tr (G := G) (s := 1) (b := 0) hG0 (by decide)), trivial⟩ (fun w4 z8 hw5 hf6 m7 a9 b10 u11 => ?_)
  have hb12 := lx_b hw5 m7 hG0 (by decide) hb
  have ht13 := lx_t hw5 m7 hGm (by decide) ht
  have hl14 : w4.length = w.length := m7.1.trans hl
  refine ax_go 2 (y := (806, [some (.ref 1000000), some (.ref 0), some (.ref 95), some (.int i)], [.ref 95], w4, 0, 0)) rfl trivial ?_
  obtain ⟨fs15, g16, -, q17⟩ := hx_obj hw5 hGm (s := 30) rfl (by decide)
  refine hx_ci (l := 809) (as := [.ref 95]) rfl rfl (hx_iv (j := 219) (n := 0) (o := 95) (r := []) rfl rfl g16 rfl) (cgM (h_X9_forget (fz := ([(1, 0), (30, 13)] : List (Nat × Nat))) (FA_Ms (G := G)) (by decide +kernel) 109)) hw5 hf6 ⟨(hx_tr (G := G) (s := 30) (b := 0) hGm (by decide)), trivial⟩ (fun w18 z22 hw19 hf20 m21 a23 b24 u25 => ?_)
  have hb26 := lx_b hw19 m21 hG0 (by decide) hb12
  have ht27 := lx_t hw19 m21 hGm (by decide) ht13
  have hl28 : w18.length = w.length := m21.1.trans hl14
  refine ax_go 2 (y := (1063, [some (.ref 1000000), some (.ref 0), some (.ref 95), some (.int i)], [], w18, 0, 0)) rfl trivial ?_
  exact K w18 ⟨hw19, hf20, _, _, hb26, ht27, by omega⟩ hl28
