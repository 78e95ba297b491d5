/-! the law: its cases, by program (0) -/
set_option maxHeartbeats 4000000 in
theorem lc_0 {n : Nat} {xs : Nat → Int32} {Q : ab_O → Prop} {G : Nat → Nat} {w : ab_W} {i : Int32} (hn : n ≤ 3072) (h0 : 0 ≤ i.toInt) (h6 : i.toInt + 6 ≤ n) (hGE : GE G) (h : LI G w) (K : ∀ w1, LI G w1 → w1.length = w.length → lwq n xs Q (1063, [some (.ref 1000000), some (.ref 0), some (.ref 95), some (.int i)], [], w1, 0, 0)) : lwq n xs Q (188, [some (.ref 1000000), some (.ref 0), some (.ref 95), some (.int i)], [], w, 0, 0) := by
  obtain ⟨hG0, hGm, hU2, hU3⟩ := hGE
  obtain ⟨hw, hf, b, c, hb, ht, hbc⟩ := h
  have hl : w.length = w.length := rfl
  refine ax_go 3 (y := (191, [some (.ref 1000000), some (.ref 0), some (.ref 95), some (.int i)], [.int i, .ref 1000000, .ref 0], w, 0, 0)) rfl trivial ?_
  refine hx_k (l := 192) (m := 1) rfl rfl (by decide) (fun z1 h2 => ?_)
  refine hx_add (l := 193) rfl rfl (fun z3 h4 => ?_)
  replace h4 := h4 (by omega) (by omega)
  refine hx_fil (n := n) (f := xs) (l := 194) rfl rfl (hx_out hw (Nat.le_refl _)) (Nat.le_refl _) rfl (by omega) (by omega) (fun z5 h6 => ?_)
  refine ax_go 2 (y := (196, [some (.ref 1000000), some (.ref 0), some (.ref 95), some (.int i)], [.int i, .ref 1000000, .int z5, .ref 0], w, 0, 0)) rfl trivial ?_
  refine hx_k (l := 197) (m := 2) rfl rfl (by decide) (fun z7 h8 => ?_)
  refine hx_add (l := 198) rfl rfl (fun z9 h10 => ?_)
  replace h10 := h10 (by omega) (by omega)
  refine hx_fil (n := n) (f := xs) (l := 199) rfl rfl (hx_out hw (Nat.le_refl _)) (Nat.le_refl _) rfl (by omega) (by omega) (fun z11 h12 => ?_)
  obtain ⟨fs13, g14, -, q15⟩ := hx_obj hw hG0 (s := 1) rfl (by decide)
  refine hx_ci (l := 202) (as := [.ref 0, .int z5, .int z11]) rfl rfl (hx_iv (j := 80) (n := 2) (o := 0) (r := []) rfl rfl g14 rfl) (cc_X8_parish_0 (fz := ([(1, 0), (30, 13)] : List (Nat × Nat))) (FA_same (G := G))  (by decide +kernel) 108) hw hf ⟨(hx_tr (G := G) (s := 1) (b := 0) hG0 (by decide)), (ck_top_ok (G := G) z5), (ck_top_ok (G := G) z11), trivial⟩ (fun w16 z20 hw17 hf18 m19 a21 b22 u23 => ?_)
  have hb24 := lx_b hw17 m19 hG0 (by decide) hb
  have ht25 := lx_t hw17 m19 hGm (by decide) ht
  have hl26 : w16.length = w.length := m19.1.trans hl
  refine ax_go 4 (y := (206, [some (.ref 1000000), some (.ref 0), some (.ref 95), some (.int i)], [.int i, .ref 1000000, .ref 95], w16, 0, 0)) rfl trivial ?_
  refine hx_k (l := 207) (m := 1) rfl rfl (by decide) (fun z27 h28 => ?_)
  refine hx_add (l := 208) rfl rfl (fun z29 h30 => ?_)
  replace h30 := h30 (by omega) (by omega)
  refine hx_fil (n := n) (f := xs) (l := 209) rfl rfl (hx_out hw17 (Nat.le_refl _)) (Nat.le_refl _) rfl (by omega) (by omega) (fun z31 h32 => ?_)
  refine ax_go 2 (y := (211, [some (.ref 1000000), some (.ref 0), some (.ref 95), some (.int i)], [.int i, .ref 1000000, .int z31, .ref 95], w16, 0, 0)) rfl trivial ?_
  refine hx_k (l := 212) (m := 2) rfl rfl (by decide) (fun z33 h34 => ?_)
  refine hx_add (l := 213) rfl rfl (fun z35 h36 => ?_)
  replace h36 := h36 (by omega) (by omega)
  refine hx_fil (n := n) (f := xs) (l := 214) rfl rfl (hx_out hw17 (Nat.le_refl _)) (Nat.le_refl _) rfl (by omega) (by omega) (fun z37 h38 => ?_)
  obtain ⟨fs39, g40, -, q41⟩ := hx_obj hw17 hGm (s := 30) rfl (by decide)
  refine hx_ci (l := 217) (as := [.ref 95, .int z31, .int z37]) rfl rfl (hx_iv (j := 136) (n := 2) (o := 95) (r := []) rfl rfl g40 rfl) (cgM (h_X9_parish (fz := ([(1, 0), (30, 13)] : List (Nat × Nat))) (FA_Ms (G := G)) (by decide +kernel) 107)) hw17 hf18 ⟨(hx_tr (G := G) (s := 30) (b := 0) hGm (by decide)), (ck_top_ok (G := G) z31), (ck_top_ok (G := G) z37), trivial⟩ (fun w42 z46 hw43 hf44 m45 a47 b48 u49 => ?_)
  have hb50 := lx_b hw43 m45 hG0 (by decide) hb24
  have ht51 := lx_t hw43 m45 hGm (by decide) ht25
  have hl52 : w42.length = w.length := m45.1.trans hl26
  refine ax_go 2 (y := (1063, [some (.ref 1000000), some (.ref 0), some (.ref 95), some (.int i)], [], w42, 0, 0)) rfl trivial ?_
  exact K w42 ⟨hw43, hf44, _, _, hb50, ht51, by omega⟩ hl52
set_option maxHeartbeats 4000000 in
theorem lc_1 {n : Nat} {xs : Nat → Int32} {Q : ab_O → Prop} {G : Nat → Nat} {w : ab_W} {i : Int32} (hn : n ≤ 3072) (h0 : 0 ≤ i.toInt) (h6 : i.toInt + 6 ≤ n) (hGE : GE G) (h : LI G w) (K : ∀ w1, LI G w1 → w1.length = w.length → lwq n xs Q (1063, [some (.ref 1000000), some (.ref 0), some (.ref 95), some (.int i)], [], w1, 0, 0)) : lwq n xs Q (221, [some (.ref 1000000), some (.ref 0), some (.ref 95), some (.int i)], [], w, 0, 0) := by
  obtain ⟨hG0, hGm, hU2, hU3⟩ := hGE
  obtain ⟨hw, hf, b, c, hb, ht, hbc⟩ := h
  have hl : w.length = w.length := rfl
  refine ax_go 3 (y := (224, [some (.ref 1000000), some (.ref 0), some (.ref 95), some (.int i)], [.int i, .ref 1000000, .ref 0], w, 0, 0)) rfl trivial ?_
  refine hx_k (l := 225) (m := 1) rfl rfl (by decide) (fun z1 h2 => ?_)
  refine hx_add (l := 226) rfl rfl (fun z3 h4 => ?_)
  replace h4 := h4 (by omega) (by omega)
  refine hx_fil (n := n) (f := xs) (l := 227) rfl rfl (hx_out hw (Nat.le_refl _)) (Nat.le_refl _) rfl (by omega) (by omega) (fun z5 h6 => ?_)
  refine ax_go 2 (y := (229, [some (.ref 1000000), some (.ref 0), some (.ref 95), some (.int i)], [.int i, .ref 1000000, .int z5, .ref 0], w, 0, 0)) rfl trivial ?_
  refine hx_k (l := 230) (m := 2) rfl rfl (by decide) (fun z7 h8 => ?_)
  refine hx_add (l := 231) rfl rfl (fun z9 h10 => ?_)
  replace h10 := h10 (by omega) (by omega)
  refine hx_fil (n := n) (f := xs) (l := 232) rfl rfl (hx_out hw (Nat.le_refl _)) (Nat.le_refl _) rfl (by omega) (by omega) (fun z11 h12 => ?_)
  obtain ⟨fs13, g14, -, q15⟩ := hx_obj hw hG0 (s := 1) rfl (by decide)
  refine hx_ci (l := 235) (as := [.ref 0, .int z5, .int z11]) rfl rfl (hx_iv (j := 81) (n := 2) (o := 0) (r := []) rfl rfl g14 rfl) (cc_X8_of_0 (fz := ([(1, 0), (30, 13)] : List (Nat × Nat))) (FA_same (G := G)) (fun d => h_X1_has0 (fz := ([(1, 0), (30, 13)] : List (Nat × Nat))) (FA_same (G := G)) (by decide +kernel) d) (fun d => h_X7_part0 (fz := ([(1, 0), (30, 13)] : List (Nat × Nat))) (FA_same (G := G)) (by decide +kernel) d) (fun d => h_X2_value0 (fz := ([(1, 0), (30, 13)] : List (Nat × Nat))) (FA_same (G := G)) (by decide +kernel) d) (by decide +kernel) 104) hw hf ⟨(hx_tr (G := G) (s := 1) (b := 0) hG0 (by decide)), (ck_top_ok (G := G) z5), (ck_top_ok (G := G) z11), trivial⟩ (fun w16 z20 hw17 hf18 m19 a21 b22 u23 => ?_)
  have hb24 := lx_b hw17 m19 hG0 (by decide) hb
  have ht25 := lx_t hw17 m19 hGm (by decide) ht
  have hl26 : w16.length = w.length := m19.1.trans hl
  refine ax_go 4 (y := (239, [some (.ref 1000000), some (.ref 0), some (.ref 95), some (.int i)], [.int i, .ref 1000000, .ref 95], w16, 0, 0)) rfl trivial ?_
  refine hx_k (l := 240) (m := 1) rfl rfl (by decide) (fun z27 h28 => ?_)
  refine hx_add (l := 241) rfl rfl (fun z29 h30 => ?_)
  replace h30 := h30 (by omega) (by omega)
  refine hx_fil (n := n) (f := xs) (l := 242) rfl rfl (hx_out hw17 (Nat.le_refl _)) (Nat.le_refl _) rfl (by omega) (by omega) (fun z31 h32 => ?_)
  refine ax_go 2 (y := (244, [some (.ref 1000000), some (.ref 0), some (.ref 95), some (.int i)], [.int i, .ref 1000000, .int z31, .ref 95], w16, 0, 0)) rfl trivial ?_
  refine hx_k (l := 245) (m := 2) rfl rfl (by decide) (fun z33 h34 => ?_)
  refine hx_add (l := 246) rfl rfl (fun z35 h36 => ?_)
  replace h36 := h36 (by omega) (by omega)
  refine hx_fil (n := n) (f := xs) (l := 247) rfl rfl (hx_out hw17 (Nat.le_refl _)) (Nat.le_refl _) rfl (by omega) (by omega) (fun z37 h38 => ?_)
  obtain ⟨fs39, g40, -, q41⟩ := hx_obj hw17 hGm (s := 30) rfl (by decide)
  refine hx_ci (l := 250) (as := [.ref 95, .int z31, .int z37]) rfl rfl (hx_iv (j := 138) (n := 2) (o := 95) (r := []) rfl rfl g40 rfl) (cgM (h_X9_of (fz := ([(1, 0), (30, 13)] : List (Nat × Nat))) (FA_Ms (G := G)) (by decide +kernel) 40)) hw17 hf18 ⟨(hx_tr (G := G) (s := 30) (b := 0) hGm (by decide)), (ck_top_ok (G := G) z31), (ck_top_ok (G := G) z37), trivial⟩ (fun w42 z46 hw43 hf44 m45 a47 b48 u49 => ?_)
  have hb50 := lx_b hw43 m45 hG0 (by decide) hb24
  have ht51 := lx_t hw43 m45 hGm (by decide) ht25
  have hl52 : w42.length = w.length := m45.1.trans hl26
  refine ax_go 2 (y := (1063, [some (.ref 1000000), some (.ref 0), some (.ref 95), some (.int i)], [], w42, 0, 0)) rfl trivial ?_
  exact K w42 ⟨hw43, hf44, _, _, hb50, ht51, by omega⟩ hl52
set_option maxHeartbeats 4000000 in
theorem lc_2 {n : Nat} {xs : Nat → Int32} {Q : ab_O → Prop} {G : Nat → Nat} {w : ab_W} {i : Int32} (hn : n ≤ 3072) (h0 : 0 ≤ i.toInt) (h6 : i.toInt + 6 ≤ n) (hGE : GE G) (h : LI G w) (K : ∀ w1, LI G w1 → w1.length = w.length → lwq n xs Q (1063, [some (.ref 1000000), some (.ref 0), some (.ref 95), some (.int i)], [], w1, 0, 0)) : lwq n xs Q (254, [some (.ref 1000000), some (.ref 0), some (.ref 95), some (.int i)], [], w, 0, 0) := by
  obtain ⟨hG0, hGm, hU2, hU3⟩ := hGE
  obtain ⟨hw, hf, b, c, hb, ht, hbc⟩ := h
  have hl : w.length = w.length := rfl
  refine ax_go 3 (y := (257, [some (.ref 1000000), some (.ref 0), some (.ref 95), some (.int i)], [.int i, .ref 1000000, .ref 0], w, 0, 0)) rfl trivial ?_
  refine hx_k (l := 258) (m := 1) rfl rfl (by decide) (fun z1 h2 => ?_)
  refine hx_add (l := 259) rfl rfl (fun z3 h4 => ?_)
  replace h4 := h4 (by omega) (by omega)
  refine hx_fil (n := n) (f := xs) (l := 260) rfl rfl (hx_out hw (Nat.le_refl _)) (Nat.le_refl _) rfl (by omega) (by omega) (fun z5 h6 => ?_)
  refine ax_go 2 (y := (262, [some (.ref 1000000), some (.ref 0), some (.ref 95), some (.int i)], [.int i, .ref 1000000, .int z5, .ref 0], w, 0, 0)) rfl trivial ?_
  refine hx_k (l := 263) (m := 2) rfl rfl (by decide) (fun z7 h8 => ?_)
  refine hx_add (l := 264) rfl rfl (fun z9 h10 => ?_)
  replace h10 := h10 (by omega) (by omega)
  refine hx_fil (n := n) (f := xs) (l := 265) rfl rfl (hx_out hw (Nat.le_refl _)) (Nat.le_refl _) rfl (by omega) (by omega) (fun z11 h12 => ?_)
  obtain ⟨fs13, g14, -, q15⟩ := hx_obj hw hG0 (s := 1) rfl (by decide)
  refine hx_ci (l := 268) (as := [.ref 0, .int z5, .int z11]) rfl rfl (hx_iv (j := 82) (n := 2) (o := 0) (r := []) rfl rfl g14 rfl) (cc_X8_group_0 (fz := ([(1, 0), (30, 13)] : List (Nat × Nat))) (FA_same (G := G))  (by decide +kernel) 109) hw hf ⟨(hx_tr (G := G) (s := 1) (b := 0) hG0 (by decide)), (ck_top_ok (G := G) z5), (ck_top_ok (G := G) z11), trivial⟩ (fun w16 z20 hw17 hf18 m19 a21 b22 u23 => ?_)
  have hb24 := lx_b hw17 m19 hG0 (by decide) hb
  have ht25 := lx_t hw17 m19 hGm (by decide) ht
  have hl26 : w16.length = w.length := m19.1.trans hl
  refine ax_go 4 (y := (272, [some (.ref 1000000), some (.ref 0), some (.ref 95), some (.int i)], [.int i, .ref 1000000, .ref 95], w16, 0, 0)) rfl trivial ?_
  refine hx_k (l := 273) (m := 1) rfl rfl (by decide) (fun z27 h28 => ?_)
  refine hx_add (l := 274) rfl rfl (fun z29 h30 => ?_)
  replace h30 := h30 (by omega) (by omega)
  refine hx_fil (n := n) (f := xs) (l := 275) rfl rfl (hx_out hw17 (Nat.le_refl _)) (Nat.le_refl _) rfl (by omega) (by omega) (fun z31 h32 => ?_)
  refine ax_go 2 (y := (277, [some (.ref 1000000), some (.ref 0), some (.ref 95), some (.int i)], [.int i, .ref 1000000, .int z31, .ref 95], w16, 0, 0)) rfl trivial ?_
  refine hx_k (l := 278) (m := 2) rfl rfl (by decide) (fun z33 h34 => ?_)
  refine hx_add (l := 279) rfl rfl (fun z35 h36 => ?_)
  replace h36 := h36 (by omega) (by omega)
  refine hx_fil (n := n) (f := xs) (l := 280) rfl rfl (hx_out hw17 (Nat.le_refl _)) (Nat.le_refl _) rfl (by omega) (by omega) (fun z37 h38 => ?_)
  obtain ⟨fs39, g40, -, q41⟩ := hx_obj hw17 hGm (s := 30) rfl (by decide)
  refine hx_ci (l := 283) (as := [.ref 95, .int z31, .int z37]) rfl rfl (hx_iv (j := 139) (n := 2) (o := 95) (r := []) rfl rfl g40 rfl) (cc_X9_group_0 (fz := ([(1, 0), (30, 13)] : List (Nat × Nat))) (FA_same (G := G)) (fun d => h_X9_lies0 (fz := ([(1, 0), (30, 13)] : List (Nat × Nat))) (FA_same (G := G)) (by decide +kernel) d) (fun d => h_X9_lies1 (fz := ([(1, 0), (30, 13)] : List (Nat × Nat))) (FA_same (G := G)) (by decide +kernel) d) (by decide +kernel) 108) hw17 hf18 ⟨(hx_tr (G := G) (s := 30) (b := 0) hGm (by decide)), (ck_top_ok (G := G) z31), (ck_top_ok (G := G) z37), trivial⟩ (fun w42 z46 hw43 hf44 m45 a47 b48 u49 => ?_)
  have hb50 := lx_b hw43 m45 hG0 (by decide) hb24
  have ht51 := lx_t hw43 m45 hGm (by decide) ht25
  have hl52 : w42.length = w.length := m45.1.trans hl26
  refine ax_go 2 (y := (1063, [some (.ref 1000000), some (.ref 0), some (.ref 95), some (.int i)], [], w42, 0, 0)) rfl trivial ?_
  exact K w42 ⟨hw43, hf44, _, _, hb50, ht51, by omega⟩ hl52
set_option maxHeartbeats 4000000 in
theorem lc_3 {n : Nat} {xs : Nat → Int32} {Q : ab_O → Prop} {G : Nat → Nat} {w : ab_W} {i : Int32} (hn : n ≤ 3072) (h0 : 0 ≤ i.toInt) (h6 : i.toInt + 6 ≤ n) (hGE : GE G) (h : LI G w) (K : ∀ w1, LI G w1 → w1.length = w.length → lwq n xs Q (1063, [some (.ref 1000000), some (.ref 0), some (.ref 95), some (.int i)], [], w1, 0, 0)) : lwq n xs Q (287, [some (.ref 1000000), some (.ref 0), some (.ref 95), some (.int i)], [], w, 0, 0) := by
  obtain ⟨hG0, hGm, hU2, hU3⟩ := hGE
  obtain ⟨hw, hf, b, c, hb, ht, hbc⟩ := h
  have hl : w.length = w.length := rfl
  refine ax_go 3 (y := (290, [some (.ref 1000000), some (.ref 0), some (.ref 95), some (.int i)], [.int i, .ref 1000000, .ref 0], w, 0, 0)) rfl trivial ?_
  refine hx_k (l := 291) (m := 1) rfl rfl (by decide) (fun z1 h2 => ?_)
  refine hx_add (l := 292) rfl rfl (fun z3 h4 => ?_)
  replace h4 := h4 (by omega) (by omega)
  refine hx_fil (n := n) (f := xs) (l := 293) rfl rfl (hx_out hw (Nat.le_refl _)) (Nat.le_refl _) rfl (by omega) (by omega) (fun z5 h6 => ?_)
  refine ax_go 2 (y := (295, [some (.ref 1000000), some (.ref 0), some (.ref 95), some (.int i)], [.int i, .ref 1000000, .int z5, .ref 0], w, 0, 0)) rfl trivial ?_
  refine hx_k (l := 296) (m := 2) rfl rfl (by decide) (fun z7 h8 => ?_)
  refine hx_add (l := 297) rfl rfl (fun z9 h10 => ?_)
  replace h10 := h10 (by omega) (by omega)
  refine hx_fil (n := n) (f := xs) (l := 298) rfl rfl (hx_out hw (Nat.le_refl _)) (Nat.le_refl _) rfl (by omega) (by omega) (fun z11 h12 => ?_)
  obtain ⟨fs13, g14, -, q15⟩ := hx_obj hw hG0 (s := 1) rfl (by decide)
  refine hx_ci (l := 301) (as := [.ref 0, .int z5, .int z11]) rfl rfl (hx_iv (j := 83) (n := 2) (o := 0) (r := []) rfl rfl g14 rfl) (h_X8_terms (fz := ([(1, 0), (30, 13)] : List (Nat × Nat))) (FA_same (G := G)) ⟨_, rfl⟩ ⟨_, rfl⟩ (by decide +kernel) 108) hw hf ⟨(hx_tr (G := G) (s := 1) (b := 0) hG0 (by decide)), (ck_top_ok (G := G) z5), (ck_top_ok (G := G) z11), trivial⟩ (fun w16 z20 hw17 hf18 m19 a21 b22 u23 => ?_)
  have hb24 := lx_b hw17 m19 hG0 (by decide) hb
  have ht25 := lx_t hw17 m19 hGm (by decide) ht
  have hl26 : w16.length = w.length := m19.1.trans hl
  refine ax_go 4 (y := (305, [some (.ref 1000000), some (.ref 0), some (.ref 95), some (.int i)], [.int i, .ref 1000000, .ref 95], w16, 0, 0)) rfl trivial ?_
  refine hx_k (l := 306) (m := 1) rfl rfl (by decide) (fun z27 h28 => ?_)
  refine hx_add (l := 307) rfl rfl (fun z29 h30 => ?_)
  replace h30 := h30 (by omega) (by omega)
  refine hx_fil (n := n) (f := xs) (l := 308) rfl rfl (hx_out hw17 (Nat.le_refl _)) (Nat.le_refl _) rfl (by omega) (by omega) (fun z31 h32 => ?_)
  refine ax_go 2 (y := (310, [some (.ref 1000000), some (.ref 0), some (.ref 95), some (.int i)], [.int i, .ref 1000000, .int z31, .ref 95], w16, 0, 0)) rfl trivial ?_
  refine hx_k (l := 311) (m := 2) rfl rfl (by decide) (fun z33 h34 => ?_)
  refine hx_add (l := 312) rfl rfl (fun z35 h36 => ?_)
  replace h36 := h36 (by omega) (by omega)
  refine hx_fil (n := n) (f := xs) (l := 313) rfl rfl (hx_out hw17 (Nat.le_refl _)) (Nat.le_refl _) rfl (by omega) (by omega) (fun z37 h38 => ?_)
  obtain ⟨fs39, g40, -, q41⟩ := hx_obj hw17 hGm (s := 30) rfl (by decide)
  refine hx_ci (l := 316) (as := [.ref 95, .int z31, .int z37]) rfl rfl (hx_iv (j := 141) (n := 2) (o := 95) (r := []) rfl rfl g40 rfl) (cgM (h_X9_terms (fz := ([(1, 0), (30, 13)] : List (Nat × Nat))) (FA_Ms (G := G)) (by decide +kernel) 107)) hw17 hf18 ⟨(hx_tr (G := G) (s := 30) (b := 0) hGm (by decide)), (ck_top_ok (G := G) z31), (ck_top_ok (G := G) z37), trivial⟩ (fun w42 z46 hw43 hf44 m45 a47 b48 u49 => ?_)
  have hb50 := lx_b hw43 m45 hG0 (by decide) hb24
  have ht51 := lx_t hw43 m45 hGm (by decide) ht25
  have hl52 : w42.length = w.length := m45.1.trans hl26
  refine ax_go 2 (y := (1063, [some (.ref 1000000), some (.ref 0), some (.ref 95), some (.int i)], [], w42, 0, 0)) rfl trivial ?_
  exact K w42 ⟨hw43, hf44, _, _, hb50, ht51, by omega⟩ hl52
set_option maxHeartbeats 4000000 in
theorem lc_4 {n : Nat} {xs : Nat → Int32} {Q : ab_O → Prop} {G : Nat → Nat} {w : ab_W} {i : Int32} (hn : n ≤ 3072) (h0 : 0 ≤ i.toInt) (h6 : i.toInt + 6 ≤ n) (hGE : GE G) (h : LI G w) (K : ∀ w1, LI G w1 → w1.length = w.length → lwq n xs Q (1063, [some (.ref 1000000), some (.ref 0), some (.ref 95), some (.int i)], [], w1, 0, 0)) : lwq n xs Q (320, [some (.ref 1000000), some (.ref 0), some (.ref 95), some (.int i)], [], w, 0, 0) := by
  obtain ⟨hG0, hGm, hU2, hU3⟩ := hGE
  obtain ⟨hw, hf, b, c, hb, ht, hbc⟩ := h
  have hl : w.length = w.length := rfl
  refine ax_go 3 (y := (323, [some (.ref 1000000), some (.ref 0), some (.ref 95), some (.int i)], [.int i, .ref 1000000, .ref 0], w, 0, 0)) rfl trivial ?_
  refine hx_k (l := 324) (m := 1) rfl rfl (by decide) (fun z1 h2 => ?_)
  refine hx_add (l := 325) rfl rfl (fun z3 h4 => ?_)
  replace h4 := h4 (by omega) (by omega)
  refine hx_fil (n := n) (f := xs) (l := 326) rfl rfl (hx_out hw (Nat.le_refl _)) (Nat.le_refl _) rfl (by omega) (by omega) (fun z5 h6 => ?_)
  refine ax_go 2 (y := (328, [some (.ref 1000000), some (.ref 0), some (.ref 95), some (.int i)], [.int i, .ref 1000000, .int z5, .ref 0], w, 0, 0)) rfl trivial ?_
  refine hx_k (l := 329) (m := 2) rfl rfl (by decide) (fun z7 h8 => ?_)
  refine hx_add (l := 330) rfl rfl (fun z9 h10 => ?_)
  replace h10 := h10 (by omega) (by omega)
  refine hx_fil (n := n) (f := xs) (l := 331) rfl rfl (hx_out hw (Nat.le_refl _)) (Nat.le_refl _) rfl (by omega) (by omega) (fun z11 h12 => ?_)
  refine ax_go 2 (y := (333, [some (.ref 1000000), some (.ref 0), some (.ref 95), some (.int i)], [.int i, .ref 1000000, .int z11, .int z5, .ref 0], w, 0, 0)) rfl trivial ?_
  refine hx_k (l := 334) (m := 3) rfl rfl (by decide) (fun z13 h14 => ?_)
  refine hx_add (l := 335) rfl rfl (fun z15 h16 => ?_)
  replace h16 := h16 (by omega) (by omega)
  refine hx_fil (n := n) (f := xs) (l := 336) rfl rfl (hx_out hw (Nat.le_refl _)) (Nat.le_refl _) rfl (by omega) (by omega) (fun z17 h18 => ?_)
  refine ax_go 2 (y := (338, [some (.ref 1000000), some (.ref 0), some (.ref 95), some (.int i)], [.int i, .ref 1000000, .int z17, .int z11, .int z5, .ref 0], w, 0, 0)) rfl trivial ?_
  refine hx_k (l := 339) (m := 4) rfl rfl (by decide) (fun z19 h20 => ?_)
  refine hx_add (l := 340) rfl rfl (fun z21 h22 => ?_)
  replace h22 := h22 (by omega) (by omega)
  refine hx_fil (n := n) (f := xs) (l := 341) rfl rfl (hx_out hw (Nat.le_refl _)) (Nat.le_refl _) rfl (by omega) (by omega) (fun z23 h24 => ?_)
  refine ax_go 2 (y := (343, [some (.ref 1000000), some (.ref 0), some (.ref 95), some (.int i)], [.int i, .ref 1000000, .int z23, .int z17, .int z11, .int z5, .ref 0], w, 0, 0)) rfl trivial ?_
  refine hx_k (l := 344) (m := 5) rfl rfl (by decide) (fun z25 h26 => ?_)
  refine hx_add (l := 345) rfl rfl (fun z27 h28 => ?_)
  replace h28 := h28 (by omega) (by omega)
  refine hx_fil (n := n) (f := xs) (l := 346) rfl rfl (hx_out hw (Nat.le_refl _)) (Nat.le_refl _) rfl (by omega) (by omega) (fun z29 h30 => ?_)
  obtain ⟨fs31, g32, -, q33⟩ := hx_obj hw hG0 (s := 1) rfl (by decide)
  refine hx_pi (l := 349) (as := [.ref 0, .int z5, .int z11, .int z17, .int z23, .int z29]) rfl rfl (hx_iv (j := 84) (n := 5) (o := 0) (r := []) rfl rfl g32 rfl) (ht_X8_feed (fz := ([(30, 13)] : List (Nat × Nat))) (FA_same (G := G)) (by decide +kernel) 108) hw hf ⟨(hx_tr (G := G) (s := 1) (b := 0) hG0 (by decide)), (ck_top_ok (G := G) z5), (ck_top_ok (G := G) z11), (ck_top_ok (G := G) z17), (ck_top_ok (G := G) z23), (ck_top_ok (G := G) z29), trivial⟩ trivial (fun w34 z38 hw35 hf36 m37 a39 b40 u41 => ?_)
  obtain ⟨bb45, hb42, hr46⟩ := u41 _ _ _ _ _ _ _ _ rfl rfl hb
  have ht43 := lx_t hw35 m37 hGm (by decide) ht
  have hl44 : w34.length = w.length := m37.1.trans hl
  refine ax_go 4 (y := (353, [some (.ref 1000000), some (.ref 0), some (.ref 95), some (.int i)], [.int i, .ref 1000000, .ref 95], w34, 0, 0)) rfl trivial ?_
  refine hx_k (l := 354) (m := 1) rfl rfl (by decide) (fun z47 h48 => ?_)
  refine hx_add (l := 355) rfl rfl (fun z49 h50 => ?_)
  replace h50 := h50 (by omega) (by omega)
  refine hx_fil (n := n) (f := xs) (l := 356) rfl rfl (hx_out hw35 (Nat.le_refl _)) (Nat.le_refl _) rfl (by omega) (by omega) (fun z51 h52 => ?_)
  refine ax_go 2 (y := (358, [some (.ref 1000000), some (.ref 0), some (.ref 95), some (.int i)], [.int i, .ref 1000000, .int z51, .ref 95], w34, 0, 0)) rfl trivial ?_
  refine hx_k (l := 359) (m := 2) rfl rfl (by decide) (fun z53 h54 => ?_)
  refine hx_add (l := 360) rfl rfl (fun z55 h56 => ?_)
  replace h56 := h56 (by omega) (by omega)
  refine hx_fil (n := n) (f := xs) (l := 361) rfl rfl (hx_out hw35 (Nat.le_refl _)) (Nat.le_refl _) rfl (by omega) (by omega) (fun z57 h58 => ?_)
  refine ax_go 2 (y := (363, [some (.ref 1000000), some (.ref 0), some (.ref 95), some (.int i)], [.int i, .ref 1000000, .int z57, .int z51, .ref 95], w34, 0, 0)) rfl trivial ?_
  refine hx_k (l := 364) (m := 3) rfl rfl (by decide) (fun z59 h60 => ?_)
  refine hx_add (l := 365) rfl rfl (fun z61 h62 => ?_)
  replace h62 := h62 (by omega) (by omega)
  refine hx_fil (n := n) (f := xs) (l := 366) rfl rfl (hx_out hw35 (Nat.le_refl _)) (Nat.le_refl _) rfl (by omega) (by omega) (fun z63 h64 => ?_)
  refine ax_go 2 (y := (368, [some (.ref 1000000), some (.ref 0), some (.ref 95), some (.int i)], [.int i, .ref 1000000, .int z63, .int z57, .int z51, .ref 95], w34, 0, 0)) rfl trivial ?_
  refine hx_k (l := 369) (m := 4) rfl rfl (by decide) (fun z65 h66 => ?_)
  refine hx_add (l := 370) rfl rfl (fun z67 h68 => ?_)
  replace h68 := h68 (by omega) (by omega)
  refine hx_fil (n := n) (f := xs) (l := 371) rfl rfl (hx_out hw35 (Nat.le_refl _)) (Nat.le_refl _) rfl (by omega) (by omega) (fun z69 h70 => ?_)
  refine ax_go 2 (y := (373, [some (.ref 1000000), some (.ref 0), some (.ref 95), some (.int i)], [.int i, .ref 1000000, .int z69, .int z63, .int z57, .int z51, .ref 95], w34, 0, 0)) rfl trivial ?_
  refine hx_k (l := 374) (m := 5) rfl rfl (by decide) (fun z71 h72 => ?_)
  refine hx_add (l := 375) rfl rfl (fun z73 h74 => ?_)
  replace h74 := h74 (by omega) (by omega)
  refine hx_fil (n := n) (f := xs) (l := 376) rfl rfl (hx_out hw35 (Nat.le_refl _)) (Nat.le_refl _) rfl (by omega) (by omega) (fun z75 h76 => ?_)
  obtain ⟨fs77, g78, -, q79⟩ := hx_obj hw35 hGm (s := 30) rfl (by decide)
  refine hx_pi (l := 379) (as := [.ref 95, .int z51, .int z57, .int z63, .int z69, .int z75]) rfl rfl (hx_iv (j := 144) (n := 5) (o := 95) (r := []) rfl rfl g78 rfl) (cgMp (ht_X9_feed (fz := ([(1, 0)] : List (Nat × Nat))) (FA_Ms (G := G)) (by decide +kernel) 109)) hw35 hf36 ⟨(hx_tr (G := G) (s := 30) (b := 0) hGm (by decide)), (ck_top_ok (G := G) z51), (ck_top_ok (G := G) z57), (ck_top_ok (G := G) z63), (ck_top_ok (G := G) z69), (ck_top_ok (G := G) z75), trivial⟩ trivial (fun w80 z84 hw81 hf82 m83 a85 b86 u87 => ?_)
  obtain ⟨bb91, ht89, hr92⟩ := u87 _ _ _ _ _ _ _ _ rfl rfl ht43
  have hb88 := lx_b hw81 m83 hG0 (by decide) hb42
  have hl90 : w80.length = w.length := m83.1.trans hl44
  refine ax_go 2 (y := (1063, [some (.ref 1000000), some (.ref 0), some (.ref 95), some (.int i)], [], w80, 0, 0)) rfl trivial ?_
  exact K w80 ⟨hw81, hf82, _, _, hb88, ht89, by omega⟩ hl90
set_option maxHeartbeats 4000000 in
theorem lc_5 {n : Nat} {xs : Nat → Int32} {Q : ab_O → Prop} {G : Nat → Nat} {w : ab_W} {i : Int32} (hn : n ≤ 3072) (h0 : 0 ≤ i.toInt) (h6 : i.toInt + 6 ≤ n) (hGE : GE G) (h : LI G w) (K : ∀ w1, LI G w1 → w1.length = w.length → lwq n xs Q (1063, [some (.ref 1000000), some (.ref 0), some (.ref 95), some (.int i)], [], w1, 0, 0)) : lwq n xs Q (383, [some (.ref 1000000), some (.ref 0), some (.ref 95), some (.int i)], [], w, 0, 0) := by
  obtain ⟨hG0, hGm, hU2, hU3⟩ := hGE
  obtain ⟨hw, hf, b, c, hb, ht, hbc⟩ := h
  have hl : w.length = w.length := rfl
  refine ax_go 3 (y := (386, [some (.ref 1000000), some (.ref 0), some (.ref 95), some (.int i)], [.int i, .ref 1000000, .ref 0], w, 0, 0)) rfl trivial ?_
  refine hx_k (l := 387) (m := 1) rfl rfl (by decide) (fun z1 h2 => ?_)
  refine hx_add (l := 388) rfl rfl (fun z3 h4 => ?_)
  replace h4 := h4 (by omega) (by omega)
  refine hx_fil (n := n) (f := xs) (l := 389) rfl rfl (hx_out hw (Nat.le_refl _)) (Nat.le_refl _) rfl (by omega) (by omega) (fun z5 h6 => ?_)
  obtain ⟨fs7, g8, -, q9⟩ := hx_obj hw hG0 (s := 1) rfl (by decide)
  refine hx_pi (l := 392) (as := [.ref 0, .int z5]) rfl rfl (hx_iv (j := 85) (n := 1) (o := 0) (r := []) rfl rfl g8 rfl) (ht_X8_end (fz := ([(30, 13)] : List (Nat × Nat))) (FA_same (G := G)) (by decide +kernel) 109) hw hf ⟨(hx_tr (G := G) (s := 1) (b := 0) hG0 (by decide)), (ck_top_ok (G := G) z5), trivial⟩ trivial (fun w10 z14 hw11 hf12 m13 a15 b16 u17 => ?_)
  obtain ⟨bb21, hb18, hr22⟩ := u17 _ _ _ _ rfl rfl hb
  have ht19 := lx_t hw11 m13 hGm (by decide) ht
  have hl20 : w10.length = w.length := m13.1.trans hl
  refine ax_go 4 (y := (396, [some (.ref 1000000), some (.ref 0), some (.ref 95), some (.int i)], [.int i, .ref 1000000, .ref 95], w10, 0, 0)) rfl trivial ?_
  refine hx_k (l := 397) (m := 1) rfl rfl (by decide) (fun z23 h24 => ?_)
  refine hx_add (l := 398) rfl rfl (fun z25 h26 => ?_)
  replace h26 := h26 (by omega) (by omega)
  refine hx_fil (n := n) (f := xs) (l := 399) rfl rfl (hx_out hw11 (Nat.le_refl _)) (Nat.le_refl _) rfl (by omega) (by omega) (fun z27 h28 => ?_)
  have hE : z5.toInt = z27.toInt := by rw [h6, h28, show z3.toInt = z25.toInt by omega]
  obtain ⟨fs29, g30, -, q31⟩ := hx_obj hw11 hGm (s := 30) rfl (by decide)
  refine hx_pi (l := 402) (as := [.ref 95, .int z27]) rfl rfl (hx_iv (j := 145) (n := 1) (o := 95) (r := []) rfl rfl g30 rfl) (cgMp (ht_X9_end (fz := ([(1, 0)] : List (Nat × Nat))) (FA_Ms (G := G)) (by decide +kernel) 108)) hw11 hf12 ⟨(hx_tr (G := G) (s := 30) (b := 0) hGm (by decide)), (ck_top_ok (G := G) z27), trivial⟩ trivial (fun w32 z36 hw33 hf34 m35 a37 b38 u39 => ?_)
  obtain ⟨bb43, ht41, hr44⟩ := u39 _ _ _ _ rfl rfl ht19
  have hb40 := lx_b hw33 m35 hG0 (by decide) hb18
  have hl42 : w32.length = w.length := m35.1.trans hl20
  refine ax_go 2 (y := (1063, [some (.ref 1000000), some (.ref 0), some (.ref 95), some (.int i)], [], w32, 0, 0)) rfl trivial ?_
  exact K w32 ⟨hw33, hf34, _, _, hb40, ht41, by omega⟩ hl42
set_option maxHeartbeats 4000000 in
theorem lc_6 {n : Nat} {xs : Nat → Int32} {Q : ab_O → Prop} {G : Nat → Nat} {w : ab_W} {i : Int32} (hn : n ≤ 3072) (h0 : 0 ≤ i.toInt) (h6 : i.toInt + 6 ≤ n) (hGE : GE G) (h : LI G w) (K : ∀ w1, LI G w1 → w1.length = w.length → lwq n xs Q (1063, [some (.ref 1000000), some (.ref 0), some (.ref 95), some (.int i)], [], w1, 0, 0)) : lwq n xs Q (406, [some (.ref 1000000), some (.ref 0), some (.ref 95), some (.int i)], [], w, 0, 0) := by
  obtain ⟨hG0, hGm, hU2, hU3⟩ := hGE
  obtain ⟨hw, hf, b, c, hb, ht, hbc⟩ := h
  have hl : w.length = w.length := rfl
  refine ax_go 1 (y := (407, [some (.ref 1000000), some (.ref 0), some (.ref 95), some (.int i)], [.ref 0], w, 0, 0)) rfl trivial ?_
  obtain ⟨fs1, g2, -, q3⟩ := hx_obj hw hG0 (s := 1) rfl (by decide)
  refine hx_pi (l := 410) (as := [.ref 0]) rfl rfl (hx_iv (j := 86) (n := 0) (o := 0) (r := []) rfl rfl g2 rfl) (ht_X8_row (fz := ([(30, 13)] : List (Nat × Nat))) (FA_same (G := G)) (by decide +kernel) 107) hw hf ⟨(hx_tr (G := G) (s := 1) (b := 0) hG0 (by decide)), trivial⟩ trivial (fun w4 z8 hw5 hf6 m7 a9 b10 u11 => ?_)
  obtain ⟨bb15, hb12, hr16⟩ := u11 _ _ _ rfl rfl hb
  have ht13 := lx_t hw5 m7 hGm (by decide) ht
  have hl14 : w4.length = w.length := m7.1.trans hl
  refine ax_go 2 (y := (412, [some (.ref 1000000), some (.ref 0), some (.ref 95), some (.int i)], [.ref 95], w4, 0, 0)) rfl trivial ?_
  obtain ⟨fs17, g18, -, q19⟩ := hx_obj hw5 hGm (s := 30) rfl (by decide)
  refine hx_pi (l := 415) (as := [.ref 95]) rfl rfl (hx_iv (j := 142) (n := 0) (o := 95) (r := []) rfl rfl g18 rfl) (cgMp (ht_X9_row (fz := ([(1, 0)] : List (Nat × Nat))) (FA_Ms (G := G)) (by decide +kernel) 106)) hw5 hf6 ⟨(hx_tr (G := G) (s := 30) (b := 0) hGm (by decide)), trivial⟩ trivial (fun w20 z24 hw21 hf22 m23 a25 b26 u27 => ?_)
  obtain ⟨bb31, ht29, hr32⟩ := u27 _ _ _ rfl rfl ht13
  have hb28 := lx_b hw21 m23 hG0 (by decide) hb12
  have hl30 : w20.length = w.length := m23.1.trans hl14
  refine ax_go 2 (y := (1063, [some (.ref 1000000), some (.ref 0), some (.ref 95), some (.int i)], [], w20, 0, 0)) rfl trivial ?_
  exact K w20 ⟨hw21, hf22, _, _, hb28, ht29, by omega⟩ hl30
set_option maxHeartbeats 4000000 in
theorem lc_7 {n : Nat} {xs : Nat → Int32} {Q : ab_O → Prop} {G : Nat → Nat} {w : ab_W} {i : Int32} (hn : n ≤ 3072) (h0 : 0 ≤ i.toInt) (h6 : i.toInt + 6 ≤ n) (hGE : GE G) (h : LI G w) (K : ∀ w1, LI G w1 → w1.length = w.length → lwq n xs Q (1063, [some (.ref 1000000), some (.ref 0), some (.ref 95), some (.int i)], [], w1, 0, 0)) : lwq n xs Q (419, [some (.ref 1000000), some (.ref 0), some (.ref 95), some (.int i)], [], w, 0, 0) := by
  obtain ⟨hG0, hGm, hU2, hU3⟩ := hGE
  obtain ⟨hw, hf, b, c, hb, ht, hbc⟩ := h
  have hl : w.length = w.length := rfl
  refine ax_go 1 (y := (420, [some (.ref 1000000), some (.ref 0), some (.ref 95), some (.int i)], [.ref 0], w, 0, 0)) rfl trivial ?_
  obtain ⟨fs1, g2, -, q3⟩ := hx_obj hw hG0 (s := 1) rfl (by decide)
  refine hx_ci (l := 423) (as := [.ref 0]) rfl rfl (hx_iv (j := 87) (n := 0) (o := 0) (r := []) rfl rfl g2 rfl) (cc_X8_stones_0 (fz := ([(1, 0), (30, 13)] : List (Nat × Nat))) (FA_same (G := G))  (by decide +kernel) 109) hw hf ⟨(hx_tr (G := G) (s := 1) (b := 0) hG0 (by decide)), trivial⟩ (fun w4 z8 hw5 hf6 m7 a9 b10 u11 => ?_)
  have hb12 := lx_b hw5 m7 hG0 (by decide) hb
  have ht13 := lx_t hw5 m7 hGm (by decide) ht
  have hl14 : w4.length = w.length := m7.1.trans hl
  refine ax_go 2 (y := (425, [some (.ref 1000000), some (.ref 0), some (.ref 95), some (.int i)], [.ref 95], w4, 0, 0)) rfl trivial ?_
  obtain ⟨fs15, g16, -, q17⟩ := hx_obj hw5 hGm (s := 30) rfl (by decide)
  refine hx_ci (l := 428) (as := [.ref 95]) rfl rfl (hx_iv (j := 143) (n := 0) (o := 95) (r := []) rfl rfl g16 rfl) (cc_X9_stones_0 (fz := ([(1, 0), (30, 13)] : List (Nat × Nat))) (FA_same (G := G))  (by decide +kernel) 109) hw5 hf6 ⟨(hx_tr (G := G) (s := 30) (b := 0) hGm (by decide)), trivial⟩ (fun w18 z22 hw19 hf20 m21 a23 b24 u25 => ?_)
  have hb26 := lx_b hw19 m21 hG0 (by decide) hb12
  have ht27 := lx_t hw19 m21 hGm (by decide) ht13
  have hl28 : w18.length = w.length := m21.1.trans hl14
  refine ax_go 2 (y := (1063, [some (.ref 1000000), some (.ref 0), some (.ref 95), some (.int i)], [], w18, 0, 0)) rfl trivial ?_
  exact K w18 ⟨hw19, hf20, _, _, hb26, ht27, by omega⟩ hl28
set_option maxHeartbeats 4000000 in
theorem lc_9 {n : Nat} {xs : Nat → Int32} {Q : ab_O → Prop} {G : Nat → Nat} {w : ab_W} {i : Int32} (hn : n ≤ 3072) (h0 : 0 ≤ i.toInt) (h6 : i.toInt + 6 ≤ n) (hGE : GE G) (h : LI G w) (K : ∀ w1, LI G w1 → w1.length = w.length → lwq n xs Q (1063, [some (.ref 1000000), some (.ref 0), some (.ref 95), some (.int i)], [], w1, 0, 0)) : lwq n xs Q (445, [some (.ref 1000000), some (.ref 0), some (.ref 95), some (.int i)], [], w, 0, 0) := by
  obtain ⟨hG0, hGm, hU2, hU3⟩ := hGE
  obtain ⟨hw, hf, b, c, hb, ht, hbc⟩ := h
  have hl : w.length = w.length := rfl
  refine ax_go 1 (y := (446, [some (.ref 1000000), some (.ref 0), some (.ref 95), some (.int i)], [.ref 0], w, 0, 0)) rfl trivial ?_
  obtain ⟨fs1, g2, -, q3⟩ := hx_obj hw hG0 (s := 1) rfl (by decide)
  refine hx_pi (l := 449) (as := [.ref 0]) rfl rfl (hx_iv (j := 89) (n := 0) (o := 0) (r := []) rfl rfl g2 rfl) (ht_X8_orders (G := G) (fz := ([(30, 13)] : List (Nat × Nat))) (by decide +kernel) 50) hw hf ⟨(hx_tr (G := G) (s := 1) (b := 0) hG0 (by decide)), trivial⟩ trivial (fun w4 z8 hw5 hf6 m7 a9 b10 u11 => ?_)
  obtain ⟨bb15, hb12, hr16⟩ := u11 _ _ _ rfl rfl hb
  have ht13 := lx_t hw5 m7 hGm (by decide) ht
  have hl14 : w4.length = w.length := m7.1.trans hl
  refine ax_go 2 (y := (451, [some (.ref 1000000), some (.ref 0), some (.ref 95), some (.int i)], [.ref 95], w4, 0, 0)) rfl trivial ?_
  obtain ⟨fs17, g18, -, q19⟩ := hx_obj hw5 hGm (s := 30) rfl (by decide)
  refine hx_pi (l := 454) (as := [.ref 95]) rfl rfl (hx_iv (j := 229) (n := 0) (o := 95) (r := []) rfl rfl g18 rfl) (cgMp (ht_X9_orders (fz := ([(1, 0)] : List (Nat × Nat))) (FA_Ns (G := G)) (by decide +kernel) 6)) hw5 hf6 ⟨(hx_tr (G := G) (s := 30) (b := 0) hGm (by decide)), trivial⟩ trivial (fun w20 z24 hw21 hf22 m23 a25 b26 u27 => ?_)
  obtain ⟨bb31, ht29, hr32⟩ := u27 _ _ _ rfl rfl ht13
  have hb28 := lx_b hw21 m23 hG0 (by decide) hb12
  have hl30 : w20.length = w.length := m23.1.trans hl14
  refine ax_go 2 (y := (1063, [some (.ref 1000000), some (.ref 0), some (.ref 95), some (.int i)], [], w20, 0, 0)) rfl trivial ?_
  exact K w20 ⟨hw21, hf22, _, _, hb28, ht29, by omega⟩ hl30
set_option maxHeartbeats 4000000 in
theorem lc_10 {n : Nat} {xs : Nat → Int32} {Q : ab_O → Prop} {G : Nat → Nat} {w : ab_W} {i : Int32} (hn : n ≤ 3072) (h0 : 0 ≤ i.toInt) (h6 : i.toInt + 6 ≤ n) (hGE : GE G) (h : LI G w) (K : ∀ w1, LI G w1 → w1.length = w.length → lwq n xs Q (1063, [some (.ref 1000000), some (.ref 0), some (.ref 95), some (.int i)], [], w1, 0, 0)) : lwq n xs Q (458, [some (.ref 1000000), some (.ref 0), some (.ref 95), some (.int i)], [], w, 0, 0) := by
  obtain ⟨hG0, hGm, hU2, hU3⟩ := hGE
  obtain ⟨hw, hf, b, c, hb, ht, hbc⟩ := h
  have hl : w.length = w.length := rfl
  refine ax_go 1 (y := (459, [some (.ref 1000000), some (.ref 0), some (.ref 95), some (.int i)], [.ref 0], w, 0, 0)) rfl trivial ?_
  obtain ⟨fs1, g2, -, q3⟩ := hx_obj hw hG0 (s := 1) rfl (by decide)
  refine hx_ci (l := 462) (as := [.ref 0]) rfl rfl (hx_iv (j := 90) (n := 0) (o := 0) (r := []) rfl rfl g2 rfl) (cc_X8_fault_0 (fz := ([(1, 0), (30, 13)] : List (Nat × Nat))) (FA_same (G := G))  (by decide +kernel) 109) hw hf ⟨(hx_tr (G := G) (s := 1) (b := 0) hG0 (by decide)), trivial⟩ (fun w4 z8 hw5 hf6 m7 a9 b10 u11 => ?_)
  have hb12 := lx_b hw5 m7 hG0 (by decide) hb
  have ht13 := lx_t hw5 m7 hGm (by decide) ht
  have hl14 : w4.length = w.length := m7.1.trans hl
  refine ax_go 2 (y := (464, [some (.ref 1000000), some (.ref 0), some (.ref 95), some (.int i)], [.ref 95], w4, 0, 0)) rfl trivial ?_
  obtain ⟨fs15, g16, -, q17⟩ := hx_obj hw5 hGm (s := 30) rfl (by decide)
  refine hx_ci (l := 467) (as := [.ref 95]) rfl rfl (hx_iv (j := 170) (n := 0) (o := 95) (r := []) rfl rfl g16 rfl) (cc_X9_fault_0 (fz := ([(1, 0), (30, 13)] : List (Nat × Nat))) (FA_same (G := G))  (by decide +kernel) 109) hw5 hf6 ⟨(hx_tr (G := G) (s := 30) (b := 0) hGm (by decide)), trivial⟩ (fun w18 z22 hw19 hf20 m21 a23 b24 u25 => ?_)
  have hb26 := lx_b hw19 m21 hG0 (by decide) hb12
  have ht27 := lx_t hw19 m21 hGm (by decide) ht13
  have hl28 : w18.length = w.length := m21.1.trans hl14
  refine ax_go 2 (y := (1063, [some (.ref 1000000), some (.ref 0), some (.ref 95), some (.int i)], [], w18, 0, 0)) rfl trivial ?_
  exact K w18 ⟨hw19, hf20, _, _, hb26, ht27, by omega⟩ hl28
set_option maxHeartbeats 4000000 in
theorem lc_11 {n : Nat} {xs : Nat → Int32} {Q : ab_O → Prop} {G : Nat → Nat} {w : ab_W} {i : Int32} (hn : n ≤ 3072) (h0 : 0 ≤ i.toInt) (h6 : i.toInt + 6 ≤ n) (hGE : GE G) (h : LI G w) (K : ∀ w1, LI G w1 → w1.length = w.length → lwq n xs Q (1063, [some (.ref 1000000), some (.ref 0), some (.ref 95), some (.int i)], [], w1, 0, 0)) : lwq n xs Q (471, [some (.ref 1000000), some (.ref 0), some (.ref 95), some (.int i)], [], w, 0, 0) := by
  obtain ⟨hG0, hGm, hU2, hU3⟩ := hGE
  obtain ⟨hw, hf, b, c, hb, ht, hbc⟩ := h
  have hl : w.length = w.length := rfl
  refine ax_go 1 (y := (472, [some (.ref 1000000), some (.ref 0), some (.ref 95), some (.int i)], [.ref 0], w, 0, 0)) rfl trivial ?_
  obtain ⟨fs1, g2, -, q3⟩ := hx_obj hw hG0 (s := 1) rfl (by decide)
  refine hx_ci (l := 475) (as := [.ref 0]) rfl rfl (hx_iv (j := 91) (n := 0) (o := 0) (r := []) rfl rfl g2 rfl) (cc_X8_stopped_0 (fz := ([(1, 0), (30, 13)] : List (Nat × Nat))) (FA_same (G := G))  (by decide +kernel) 109) hw hf ⟨(hx_tr (G := G) (s := 1) (b := 0) hG0 (by decide)), trivial⟩ (fun w4 z8 hw5 hf6 m7 a9 b10 u11 => ?_)
  have hb12 := lx_b hw5 m7 hG0 (by decide) hb
  have ht13 := lx_t hw5 m7 hGm (by decide) ht
  have hl14 : w4.length = w.length := m7.1.trans hl
  refine ax_go 2 (y := (477, [some (.ref 1000000), some (.ref 0), some (.ref 95), some (.int i)], [.ref 95], w4, 0, 0)) rfl trivial ?_
  obtain ⟨fs15, g16, -, q17⟩ := hx_obj hw5 hGm (s := 30) rfl (by decide)
  refine hx_ci (l := 480) (as := [.ref 95]) rfl rfl (hx_iv (j := 228) (n := 0) (o := 95) (r := []) rfl rfl g16 rfl) (cc_X9_stopped_0 (fz := ([(1, 0), (30, 13)] : List (Nat × Nat))) (FA_same (G := G))  (by decide +kernel) 109) hw5 hf6 ⟨(hx_tr (G := G) (s := 30) (b := 0) hGm (by decide)), trivial⟩ (fun w18 z22 hw19 hf20 m21 a23 b24 u25 => ?_)
  have hb26 := lx_b hw19 m21 hG0 (by decide) hb12
  have ht27 := lx_t hw19 m21 hGm (by decide) ht13
  have hl28 : w18.length = w.length := m21.1.trans hl14
  refine ax_go 2 (y := (1063, [some (.ref 1000000), some (.ref 0), some (.ref 95), some (.int i)], [], w18, 0, 0)) rfl trivial ?_
  exact K w18 ⟨hw19, hf20, _, _, hb26, ht27, by omega⟩ hl28
set_option maxHeartbeats 4000000 in
theorem lc_12 {n : Nat} {xs : Nat → Int32} {Q : ab_O → Prop} {G : Nat → Nat} {w : ab_W} {i : Int32} (hn : n ≤ 3072) (h0 : 0 ≤ i.toInt) (h6 : i.toInt + 6 ≤ n) (hGE : GE G) (h : LI G w) (K : ∀ w1, LI G w1 → w1.length = w.length → lwq n xs Q (1063, [some (.ref 1000000), some (.ref 0), some (.ref 95), some (.int i)], [], w1, 0, 0)) : lwq n xs Q (484, [some (.ref 1000000), some (.ref 0), some (.ref 95), some (.int i)], [], w, 0, 0) := by
  obtain ⟨hG0, hGm, hU2, hU3⟩ := hGE
  obtain ⟨hw, hf, b, c, hb, ht, hbc⟩ := h
  have hl : w.length = w.length := rfl
  refine ax_go 3 (y := (487, [some (.ref 1000000), some (.ref 0), some (.ref 95), some (.int i)], [.int i, .ref 1000000, .ref 0], w, 0, 0)) rfl trivial ?_
  refine hx_k (l := 488) (m := 1) rfl rfl (by decide) (fun z1 h2 => ?_)
  refine hx_add (l := 489) rfl rfl (fun z3 h4 => ?_)
  replace h4 := h4 (by omega) (by omega)
  refine hx_fil (n := n) (f := xs) (l := 490) rfl rfl (hx_out hw (Nat.le_refl _)) (Nat.le_refl _) rfl (by omega) (by omega) (fun z5 h6 => ?_)
  obtain ⟨fs7, g8, -, q9⟩ := hx_obj hw hG0 (s := 1) rfl (by decide)
  refine hx_ci (l := 493) (as := [.ref 0, .int z5]) rfl rfl (hx_iv (j := 92) (n := 1) (o := 0) (r := []) rfl rfl g8 rfl) (cc_X8_force_0 (fz := ([(1, 0), (30, 13)] : List (Nat × Nat))) (FA_same (G := G))  (by decide +kernel) 108) hw hf ⟨(hx_tr (G := G) (s := 1) (b := 0) hG0 (by decide)), (ck_top_ok (G := G) z5), trivial⟩ (fun w10 z14 hw11 hf12 m13 a15 b16 u17 => ?_)
  have hb18 := lx_b hw11 m13 hG0 (by decide) hb
  have ht19 := lx_t hw11 m13 hGm (by decide) ht
  have hl20 : w10.length = w.length := m13.1.trans hl
  refine ax_go 4 (y := (497, [some (.ref 1000000), some (.ref 0), some (.ref 95), some (.int i)], [.int i, .ref 1000000, .ref 95], w10, 0, 0)) rfl trivial ?_
  refine hx_k (l := 498) (m := 1) rfl rfl (by decide) (fun z21 h22 => ?_)
  refine hx_add (l := 499) rfl rfl (fun z23 h24 => ?_)
  replace h24 := h24 (by omega) (by omega)
  refine hx_fil (n := n) (f := xs) (l := 500) rfl rfl (hx_out hw11 (Nat.le_refl _)) (Nat.le_refl _) rfl (by omega) (by omega) (fun z25 h26 => ?_)
  obtain ⟨fs27, g28, -, q29⟩ := hx_obj hw11 hGm (s := 30) rfl (by decide)
  refine hx_ci (l := 503) (as := [.ref 95, .int z25]) rfl rfl (hx_iv (j := 171) (n := 1) (o := 95) (r := []) rfl rfl g28 rfl) (cgM (h_X9_force (fz := ([(1, 0), (30, 13)] : List (Nat × Nat))) (FA_Ms (G := G)) (by decide +kernel) 108)) hw11 hf12 ⟨(hx_tr (G := G) (s := 30) (b := 0) hGm (by decide)), (ck_top_ok (G := G) z25), trivial⟩ (fun w30 z34 hw31 hf32 m33 a35 b36 u37 => ?_)
  have hb38 := lx_b hw31 m33 hG0 (by decide) hb18
  have ht39 := lx_t hw31 m33 hGm (by decide) ht19
  have hl40 : w30.length = w.length := m33.1.trans hl20
  refine ax_go 2 (y := (1063, [some (.ref 1000000), some (.ref 0), some (.ref 95), some (.int i)], [], w30, 0, 0)) rfl trivial ?_
  exact K w30 ⟨hw31, hf32, _, _, hb38, ht39, by omega⟩ hl40
