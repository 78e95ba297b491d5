/-! walks by program: reckoning, at once, years -/
def fb_X9_of : List (Nat × Nat) := [(8, 3), (8, 5), (19, 999), (32, 999), (33, 999), (34, 999), (35, 999), (44, 999), (45, 999), (1, 0), (18, 999), (2, 11), (2, 14), (1, 15), (54, 11), (4, 2), (7, 9), (30, 13), (30, 34), (30, 2), (46, 999), (47, 999), (30, 35), (30, 36), (7, 0), (24, 999), (37, 999), (30, 4), (30, 5), (30, 6), (30, 8), (30, 9), (30, 10), (30, 11), (30, 14), (30, 15), (30, 16), (30, 17), (30, 18), (30, 19), (30, 20), (30, 21), (39, 999), (40, 999), (41, 999), (30, 30), (30, 42), (30, 43), (30, 44), (1, 1), (1, 3), (1, 10), (1, 13), (8, 0), (30, 49), (2, 15), (8, 1)]
set_option maxHeartbeats 8000000 in
theorem h_X9_of {ro : ab_R} {G : Nat → Nat} {fz : List (Nat × Nat)} {F : ab_W → Prop} (hF : ∀ w w', smt G w w' → F w → F w') (hfz : ∀ q ∈ fz, q ∈ fb_X9_of) (d : Nat) : ck_ct ro sp_ G (F9 G F) fz (ab_Ev ro ab_codes (d + 70)) 138 [(2, 30, 0), (0, (-2147483648), 2147483647), (0, (-2147483648), 2147483647)] (some (0, (-2147483648), 2147483647)) 0 0 := by
  have hFF := F9_same hF
  refine ck_hand (d := d + 69) (by decide) (fun as w hw hf has => ?_)
  match as, has with
  | [v0, v1, v2], ⟨h0, h1, h2, _⟩ =>
    obtain ⟨o, rfl, _, hG0⟩ := ty_refn h0 rfl rfl
    replace hG0 : G o = 30 := hG0
    obtain ⟨p, rfl, hl1, hh1⟩ := ty_int h1 rfl
    replace hl1 : ((-2147483648) : Int) ≤ p.toInt := hl1
    replace hh1 : p.toInt ≤ 2147483647 := hh1
    obtain ⟨wh, rfl, hl2, hh2⟩ := ty_int h2 rfl
    replace hl2 : ((-2147483648) : Int) ≤ wh.toInt := hl2
    replace hh2 : wh.toInt ≤ 2147483647 := hh2
    refine ⟨rfl, ?_⟩
    change ab_wp ro (ab_Ev ro ab_codes (d + 69)) 9 false (some .int) ab_k_X9_of (fun o_1 => ∃ v w1, o_1 = (v, w1, 0, 0) ∧ ty_w sp_ G w1 ∧ (F9 G F) w1 ∧ ty_same G fz w w1 ∧ ck_res G (some (0, (-2147483648), 2147483647)) v ∧ ck_wit 0 0 [.ref o, .int p, .int wh] v) (0, [some (.ref o), some (.int p), some (.int wh)], [], w, 0, 0)
    refine ax_go 2 (y := (2, [some (.ref o), some (.int p), some (.int wh)], [.int p, .ref o], w, 0, 0)) rfl trivial ?_
    obtain ⟨fs1, g2, -, q3⟩ := hx_obj hw hG0 (s := 30) rfl (by decide)
    refine hx_pi (l := 5) (as := [.ref o, .int p]) rfl rfl (hx_iv (j := 133) (n := 1) (o := o) (r := []) rfl rfl g2 rfl) (hp_X9_isParish (fz := fz) hF (fun q hq => (by decide +kernel : ∀ q ∈ fb_X9_of, q ∈ fb_hp_X9_isParish) q (hfz q hq)) (d + 67)) hw hf ⟨(hx_tr (G := G) (s := 30) (b := 0) hG0 (by decide)), (ck_top_ok (G := G) p), trivial⟩ trivial (fun w4 z9 hw5 hf6 m7 a10 b11 u12 => ?_)
    rw [u12.1]
    obtain ⟨p13, e14, hG15⟩ := hx_fr (k := 2) (s := 32) q3 rfl
    obtain ⟨f16, g17, r18⟩ := hx_row hw hG15 (s := 32) (kd := 0) (n := 5721) rfl (by decide)
    have u19 := u12.2 _ _ _ _ _ rfl ⟨_, g2, e14⟩ g17 rfl
    clear u12
    have b20 := ((hf.1.1 _ _ hG15 g17).1 110 (by decide)).2.2.2.2.1 rfl
    refine hx_if_ne (l := 8) rfl rfl (fun h21 => ?_) (fun h21 => ?_)
    · -- 12
      replace u19 := u19.1 (by omega)
      refine ax_go 1 (y := (13, [some (.ref o), some (.int p), some (.int wh)], [.int wh], w, 0, 0)) rfl trivial ?_
      by_cases h22 : wh.toInt = 0
      · -- case
        refine hx_tsq (l := 68) 0 rfl rfl (by decide) (by decide) rfl (by omega) (by omega) ?_
        refine ax_go 1 (y := (69, [some (.ref o), some (.int p), some (.int wh)], [.ref o], w, 0, 0)) rfl trivial ?_
        refine hx_gf (l := 72) rfl rfl rfl g2 e14 ?_
        refine hx_k (l := 74) (m := 71) rfl rfl (by decide) (fun z23 h24 => ?_)
        refine ax_go 1 (y := (75, [some (.ref o), some (.int p), some (.int wh)], [.int p, .int z23, .ref p13], w, 0, 0)) rfl trivial ?_
        refine hx_add (l := 76) rfl rfl (fun z25 h26 => ?_)
        replace h26 := h26 (by omega) (by omega)
        refine hx_il (l := 77) rfl rfl g17 (by omega) (by omega) (fun z27 h28 => ?_)
        exact ax_ret rfl rfl trivial ⟨some (.int z27), _, rfl, hw, hf, (ty_same_rf w), (ck_top_ok (G := G) z27), trivial⟩
      by_cases h29 : wh.toInt = 1
      · -- case
        refine hx_tsq (l := 78) 1 rfl rfl (by decide) (by decide) rfl (by omega) (by omega) ?_
        refine ax_go 1 (y := (79, [some (.ref o), some (.int p), some (.int wh)], [.ref o], w, 0, 0)) rfl trivial ?_
        refine hx_gf (l := 82) rfl rfl rfl g2 e14 ?_
        refine hx_k (l := 83) (m := 0) rfl rfl (by decide) (fun z30 h31 => ?_)
        refine ax_go 1 (y := (84, [some (.ref o), some (.int p), some (.int wh)], [.int p, .int z30, .ref p13], w, 0, 0)) rfl trivial ?_
        refine hx_add (l := 85) rfl rfl (fun z32 h33 => ?_)
        replace h33 := h33 (by omega) (by omega)
        refine hx_il (l := 86) rfl rfl g17 (by omega) (by omega) (fun z34 h35 => ?_)
        exact ax_ret rfl rfl trivial ⟨some (.int z34), _, rfl, hw, hf, (ty_same_rf w), (ck_top_ok (G := G) z34), trivial⟩
      by_cases h36 : wh.toInt = 2
      · -- case
        refine hx_tsq (l := 87) 2 rfl rfl (by decide) (by decide) rfl (by omega) (by omega) ?_
        refine ax_go 1 (y := (88, [some (.ref o), some (.int p), some (.int wh)], [.ref o], w, 0, 0)) rfl trivial ?_
        refine hx_gf (l := 91) rfl rfl rfl g2 e14 ?_
        refine hx_k (l := 93) (m := 81) rfl rfl (by decide) (fun z37 h38 => ?_)
        refine ax_go 1 (y := (94, [some (.ref o), some (.int p), some (.int wh)], [.int p, .int z37, .ref p13], w, 0, 0)) rfl trivial ?_
        refine hx_add (l := 95) rfl rfl (fun z39 h40 => ?_)
        replace h40 := h40 (by omega) (by omega)
        refine hx_il (l := 96) rfl rfl g17 (by omega) (by omega) (fun z41 h42 => ?_)
        exact ax_ret rfl rfl trivial ⟨some (.int z41), _, rfl, hw, hf, (ty_same_rf w), (ck_top_ok (G := G) z41), trivial⟩
      by_cases h43 : wh.toInt = 3
      · -- case
        refine hx_tsq (l := 97) 3 rfl rfl (by decide) (by decide) rfl (by omega) (by omega) ?_
        refine ax_go 1 (y := (98, [some (.ref o), some (.int p), some (.int wh)], [.ref o], w, 0, 0)) rfl trivial ?_
        refine hx_gf (l := 101) rfl rfl rfl g2 e14 ?_
        refine hx_k (l := 103) (m := 10) rfl rfl (by decide) (fun z44 h45 => ?_)
        refine ax_go 1 (y := (104, [some (.ref o), some (.int p), some (.int wh)], [.int p, .int z44, .ref p13], w, 0, 0)) rfl trivial ?_
        refine hx_add (l := 105) rfl rfl (fun z46 h47 => ?_)
        replace h47 := h47 (by omega) (by omega)
        refine hx_il (l := 106) rfl rfl g17 (by omega) (by omega) (fun z48 h49 => ?_)
        exact ax_ret rfl rfl trivial ⟨some (.int z48), _, rfl, hw, hf, (ty_same_rf w), (ck_top_ok (G := G) z48), trivial⟩
      by_cases h50 : wh.toInt = 4
      · -- case
        refine hx_tsq (l := 107) 4 rfl rfl (by decide) (by decide) rfl (by omega) (by omega) ?_
        refine ax_go 2 (y := (109, [some (.ref o), some (.int p), some (.int wh)], [.int p, .ref o], w, 0, 0)) rfl trivial ?_
        refine hx_ci (l := 112) (as := [.ref o, .int p]) rfl rfl (hx_iv (j := 184) (n := 1) (o := o) (r := []) rfl rfl g2 rfl) (h_X9_tensOf (fz := fz) hF (fun q hq => (by decide +kernel : ∀ q ∈ fb_X9_of, q ∈ fb_X9_tensOf) q (hfz q hq)) (d + 6)) hw hf ⟨(hx_tr (G := G) (s := 30) (b := 0) hG0 (by decide)), (hx_ti (G := G) (lo := 0) (hi := 9) (by omega) (by omega)), trivial⟩ (fun w51 z56 hw52 hf53 m54 a57 b58 u59 => ?_)
        have hs55 := ty_same_tr (ty_same_rf w) m54
        exact ax_ret rfl rfl trivial ⟨some (.int z56), _, rfl, hw52, hf53, hs55, (ck_top_ok (G := G) z56), trivial⟩
      by_cases h60 : wh.toInt = 5
      · -- case
        refine hx_tsq (l := 113) 5 rfl rfl (by decide) (by decide) rfl (by omega) (by omega) ?_
        refine ax_go 2 (y := (115, [some (.ref o), some (.int p), some (.int wh)], [.int p, .ref o], w, 0, 0)) rfl trivial ?_
        refine hx_pi (l := 118) (as := [.ref o, .int p]) rfl rfl (hx_iv (j := 185) (n := 1) (o := o) (r := []) rfl rfl g2 rfl) (hp_X9_overOf (fz := fz) hF (fun q hq => (by decide +kernel : ∀ q ∈ fb_X9_of, q ∈ fb_hp_X9_overOf) q (hfz q hq)) (d + 5)) hw hf ⟨(hx_tr (G := G) (s := 30) (b := 0) hG0 (by decide)), (hx_ti (G := G) (lo := 0) (hi := 9) (by omega) (by omega)), trivial⟩ trivial (fun w61 z66 hw62 hf63 m64 a67 b68 u69 => ?_)
        have hs65 := ty_same_tr (ty_same_rf w) m64
        replace u69 := u69 _ _ _ _ _ rfl ⟨_, g2, e14⟩ g17 rfl
        exact ax_ret rfl rfl trivial ⟨some (.int z66), _, rfl, hw62, hf63, hs65, (ck_top_ok (G := G) z66), trivial⟩
      by_cases h70 : wh.toInt = 6
      · -- case
        refine hx_tsq (l := 119) 6 rfl rfl (by decide) (by decide) rfl (by omega) (by omega) ?_
        refine ax_go 2 (y := (121, [some (.ref o), some (.int p), some (.int wh)], [.int p, .ref o], w, 0, 0)) rfl trivial ?_
        refine hx_pi (l := 124) (as := [.ref o, .int p]) rfl rfl (hx_iv (j := 186) (n := 1) (o := o) (r := []) rfl rfl g2 rfl) (hp_X9_walkersOf (fz := fz) hF (fun q hq => (by decide +kernel : ∀ q ∈ fb_X9_of, q ∈ fb_hp_X9_walkersOf) q (hfz q hq)) (d + 4)) hw hf ⟨(hx_tr (G := G) (s := 30) (b := 0) hG0 (by decide)), (hx_ti (G := G) (lo := 0) (hi := 9) (by omega) (by omega)), trivial⟩ trivial (fun w71 z76 hw72 hf73 m74 a77 b78 u79 => ?_)
        have hs75 := ty_same_tr (ty_same_rf w) m74
        replace u79 := u79 _ _ _ _ _ rfl ⟨_, g2, e14⟩ g17 rfl
        exact ax_ret rfl rfl trivial ⟨some (.int z76), _, rfl, hw72, hf73, hs75, (ck_top_ok (G := G) z76), trivial⟩
      by_cases h80 : wh.toInt = 7
      · -- case
        refine hx_tsq (l := 125) 7 rfl rfl (by decide) (by decide) rfl (by omega) (by omega) ?_
        refine ax_go 2 (y := (127, [some (.ref o), some (.int p), some (.int wh)], [.int p, .ref o], w, 0, 0)) rfl trivial ?_
        refine hx_ci (l := 130) (as := [.ref o, .int p]) rfl rfl (hx_iv (j := 187) (n := 1) (o := o) (r := []) rfl rfl g2 rfl) (h_X9_stepsOf (fz := fz) hF (fun q hq => (by decide +kernel : ∀ q ∈ fb_X9_of, q ∈ fb_X9_stepsOf) q (hfz q hq)) (d + 4)) hw hf ⟨(hx_tr (G := G) (s := 30) (b := 0) hG0 (by decide)), (hx_ti (G := G) (lo := 0) (hi := 9) (by omega) (by omega)), trivial⟩ (fun w81 z86 hw82 hf83 m84 a87 b88 u89 => ?_)
        have hs85 := ty_same_tr (ty_same_rf w) m84
        exact ax_ret rfl rfl trivial ⟨some (.int z86), _, rfl, hw82, hf83, hs85, (ck_top_ok (G := G) z86), trivial⟩
      by_cases h90 : wh.toInt = 8
      · -- case
        refine hx_tsq (l := 131) 8 rfl rfl (by decide) (by decide) rfl (by omega) (by omega) ?_
        refine ax_go 2 (y := (133, [some (.ref o), some (.int p), some (.int wh)], [.int p, .ref o], w, 0, 0)) rfl trivial ?_
        refine hx_ci (l := 136) (as := [.ref o, .int p]) rfl rfl (hx_iv (j := 188) (n := 1) (o := o) (r := []) rfl rfl g2 rfl) (h_X9_isBarred (fz := fz) hF (fun q hq => (by decide +kernel : ∀ q ∈ fb_X9_of, q ∈ fb_X9_isBarred) q (hfz q hq)) (d + 4)) hw hf ⟨(hx_tr (G := G) (s := 30) (b := 0) hG0 (by decide)), (hx_ti (G := G) (lo := 0) (hi := 9) (by omega) (by omega)), trivial⟩ (fun w91 z96 hw92 hf93 m94 a97 b98 u99 => ?_)
        have hs95 := ty_same_tr (ty_same_rf w) m94
        refine hx_if_eq (l := 139) rfl rfl (fun h100 => ?_) (fun h100 => ?_)
        · -- 143
          refine hx_k (l := 144) (m := 0) rfl rfl (by decide) (fun z101 h102 => ?_)
          exact ax_ret rfl rfl trivial ⟨some (.int z101), _, rfl, hw92, hf93, hs95, (ck_top_ok (G := G) z101), trivial⟩
        · -- 139
          refine hx_k (l := 140) (m := 1) rfl rfl (by decide) (fun z103 h104 => ?_)
          refine ax_go 1 (y := (144, [some (.ref o), some (.int p), some (.int wh)], [.int z103], w91, 0, 0)) rfl trivial ?_
          exact ax_ret rfl rfl trivial ⟨some (.int z103), _, rfl, hw92, hf93, hs95, (ck_top_ok (G := G) z103), trivial⟩
      by_cases h105 : wh.toInt = 9
      · -- case
        refine hx_tsq (l := 145) 9 rfl rfl (by decide) (by decide) rfl (by omega) (by omega) ?_
        refine ax_go 2 (y := (147, [some (.ref o), some (.int p), some (.int wh)], [.int p, .ref o], w, 0, 0)) rfl trivial ?_
        refine hx_pi (l := 150) (as := [.ref o, .int p]) rfl rfl (hx_iv (j := 137) (n := 1) (o := o) (r := []) rfl rfl g2 rfl) (hp_X9_wayOf (fz := fz) hF (fun q hq => (by decide +kernel : ∀ q ∈ fb_X9_of, q ∈ fb_hp_X9_wayOf) q (hfz q hq)) (d + 3)) hw hf ⟨(hx_tr (G := G) (s := 30) (b := 0) hG0 (by decide)), (hx_ti (G := G) (lo := 0) (hi := 9) (by omega) (by omega)), trivial⟩ (fun y0 y1 pk1 f1 h1 h2 h3 => by cases h1; obtain ⟨fs1, g1, e1⟩ := h2; obtain rfl := hx_inj g2 g1; cases e14.symm.trans e1; obtain rfl := hx_injr g17 h3; exact (by omega)) (fun w106 z111 hw107 hf108 m109 a112 b113 u114 => ?_)
        have hs110 := ty_same_tr (ty_same_rf w) m109
        exact ax_ret rfl rfl trivial ⟨some (.int z111), _, rfl, hw107, hf108, hs110, (ck_top_ok (G := G) z111), trivial⟩
      refine hx_tsd (l := 151) rfl (by decide) rfl (by omega) ?_
      refine hx_k (l := 154) (m := (-1000)) rfl rfl (by decide) (fun z115 h116 => ?_)
      exact ax_ret rfl rfl trivial ⟨some (.int z115), _, rfl, hw, hf, (ty_same_rf w), (ck_top_ok (G := G) z115), trivial⟩
    · -- 8
      clear u19
      refine hx_k (l := 11) (m := (-1000)) rfl rfl (by decide) (fun z117 h118 => ?_)
      exact ax_ret rfl rfl trivial ⟨some (.int z117), _, rfl, hw, hf, (ty_same_rf w), (ck_top_ok (G := G) z117), trivial⟩
def fb_X9_reckons : List (Nat × Nat) := [(8, 3), (8, 5), (19, 999), (33, 999), (34, 999), (35, 999), (44, 999), (45, 999), (1, 0), (18, 999), (2, 11), (2, 14), (1, 15), (54, 11), (4, 2), (7, 9), (30, 13), (30, 34), (30, 2), (46, 999), (47, 999), (30, 35), (30, 36), (7, 0), (24, 999), (37, 999), (30, 4), (30, 5), (30, 6), (30, 8), (30, 9), (30, 10), (30, 11), (30, 14), (30, 15), (30, 16), (30, 17), (30, 18), (30, 19), (30, 20), (30, 21), (39, 999), (40, 999), (41, 999), (30, 30), (30, 42), (30, 43), (30, 44), (1, 1), (1, 3), (1, 10), (1, 13), (8, 0), (30, 49), (2, 15), (8, 1)]
set_option maxHeartbeats 8000000 in
theorem h_X9_reckons {ro : ab_R} {G : Nat → Nat} {fz : List (Nat × Nat)} {F : ab_W → Prop} (hF : ∀ w w', smt G w w' → F w → F w') (hfz : ∀ q ∈ fz, q ∈ fb_X9_reckons) (d : Nat) : ck_ct ro sp_ G (F9 G F) fz (ab_Ev ro ab_codes (d + 70)) 192 [(2, 30, 0), (0, 0, 9)] (some (0, 0, 98)) 0 0 := by
  have hFF := F9_same hF
  refine ck_hand (d := d + 69) (by decide) (fun as w hw hf has => ?_)
  match as, has with
  | [v0, v1], ⟨h0, h1, _⟩ =>
    obtain ⟨o, rfl, _, hG0⟩ := ty_refn h0 rfl rfl
    replace hG0 : G o = 30 := hG0
    obtain ⟨p, rfl, hl1, hh1⟩ := ty_int h1 rfl
    replace hl1 : (0 : Int) ≤ p.toInt := hl1
    replace hh1 : p.toInt ≤ 9 := hh1
    refine ⟨rfl, ?_⟩
    change ab_wp ro (ab_Ev ro ab_codes (d + 69)) 9 false (some .int) ab_k_X9_reckons (fun o_1 => ∃ v w1, o_1 = (v, w1, 0, 0) ∧ ty_w sp_ G w1 ∧ (F9 G F) w1 ∧ ty_same G fz w w1 ∧ ck_res G (some (0, 0, 98)) v ∧ ck_wit 0 0 [.ref o, .int p] v) (0, [some (.ref o), some (.int p), none, none, none], [], w, 0, 0)
    refine ax_go 2 (y := (2, [some (.ref o), some (.int p), none, none, none], [.int p, .ref o], w, 0, 0)) rfl trivial ?_
    obtain ⟨fs1, g2, -, q3⟩ := hx_obj hw hG0 (s := 30) rfl (by decide)
    obtain ⟨p13, e14, hG15⟩ := hx_fr (k := 2) (s := 32) q3 rfl
    obtain ⟨f16, g17, r18⟩ := hx_row hw hG15 (s := 32) (kd := 0) (n := 5721) rfl (by decide)
    refine hx_pi (l := 5) (as := [.ref o, .int p]) rfl rfl (hx_iv (j := 186) (n := 1) (o := o) (r := []) rfl rfl g2 rfl) (hp_X9_walkersOf (fz := ([(32, 999), (30, 2)] ++ fz)) hF (hx_app (by decide +kernel) (fun q hq => (by decide +kernel : ∀ q ∈ fb_X9_reckons, q ∈ fb_hp_X9_walkersOf) q (hfz q hq))) (d + 4)) hw hf ⟨(hx_tr (G := G) (s := 30) (b := 0) hG0 (by decide)), (hx_ti (G := G) (lo := 0) (hi := 9) (by omega) (by omega)), trivial⟩ trivial (fun w4 z9 hw5 hf6 m7 a10 b11 u12 => ?_)
    have hs8 := ty_same_tr (ty_same_rf w) (hx_sapp m7)
    obtain ⟨fs19, g20, -, q21⟩ := hx_obj hw5 hG0 (s := 30) rfl (by decide)
    replace u12 := u12 _ _ _ _ _ rfl ⟨_, g2, e14⟩ g17 rfl
    refine ax_go 3 (y := (8, [some (.ref o), some (.int p), some (.int z9), none, none], [.int p, .ref o], w4, 0, 0)) rfl trivial ?_
    refine hx_ci (l := 11) (as := [.ref o, .int p]) rfl rfl (hx_iv (j := 187) (n := 1) (o := o) (r := []) rfl rfl g20 rfl) (h_X9_stepsOf (fz := ([(32, 999), (30, 2)] ++ fz)) hF (hx_app (by decide +kernel) (fun q hq => (by decide +kernel : ∀ q ∈ fb_X9_reckons, q ∈ fb_X9_stepsOf) q (hfz q hq))) (d + 4)) hw5 hf6 ⟨(hx_tr (G := G) (s := 30) (b := 0) hG0 (by decide)), (hx_ti (G := G) (lo := 0) (hi := 9) (by omega) (by omega)), trivial⟩ (fun w22 z27 hw23 hf24 m25 a28 b29 u30 => ?_)
    have hs26 := ty_same_tr hs8 (hx_sapp m25)
    obtain ⟨fs31, g32, -, q33⟩ := hx_obj hw23 hG0 (s := 30) rfl (by decide)
    refine ax_go 4 (y := (15, [some (.ref o), some (.int p), some (.int z9), some (.int z27), none], [.int z9, .int p, .ref o], w22, 0, 0)) rfl trivial ?_
    refine hx_p0 (l := 18) (as := [.ref o, .int p, .int z9]) rfl rfl (hx_iv (j := 191) (n := 2) (o := o) (r := []) rfl rfl g32 rfl) (hp_X9_walksOff (fz := ([(30, 2)] ++ fz)) hF (hx_app (by decide +kernel) (fun q hq => (by decide +kernel : ∀ q ∈ fb_X9_reckons, q ∈ fb_hp_X9_walksOff) q (hfz q hq))) (d + 67)) hw23 hf24 ⟨(hx_tr (G := G) (s := 30) (b := 0) hG0 (by decide)), (hx_ti (G := G) (lo := 0) (hi := 9) (by omega) (by omega)), (hx_ti (G := G) (lo := 0) (hi := 98) (by omega) (by omega)), trivial⟩ (fun y0 y1 y2 pk1 f1 h1 h2 h3 => by cases h1; obtain ⟨fs1, g1, e1⟩ := h2; obtain rfl := hx_inj g32 g1; cases ((hx_kf m25 (hx_mem hG0 (by decide)) g20 g32).trans ((hx_kf m7 (hx_mem hG0 (by decide)) g2 g20).trans e14)).symm.trans e1; obtain rfl := hx_injr ((hx_kr m25 (hx_mem hG15 (by decide))).trans ((hx_kr m7 (hx_mem hG15 (by decide))).trans g17)) h3; exact (by omega)) (fun w34 hw35 hf36 m37 u42 => ?_)
    have hs38 := ty_same_tr hs26 (hx_sapp m37)
    obtain ⟨fs43, g44, -, q45⟩ := hx_obj hw35 hG0 (s := 30) rfl (by decide)
    refine ax_go 1 (y := (19, [some (.ref o), some (.int p), some (.int z9), some (.int z27), none], [.int z9], w34, 0, 0)) rfl trivial ?_
    refine hx_if_ne (l := 22) rfl rfl (fun h46 => ?_) (fun h46 => ?_)
    · -- 24
      refine hx_k (l := 26) (m := 20) rfl rfl (by decide) (fun z47 h48 => ?_)
      refine hx_k (l := 27) (m := 3) rfl rfl (by decide) (fun z49 h50 => ?_)
      refine ax_go 1 (y := (28, [some (.ref o), some (.int p), some (.int z9), some (.int z27), none], [.ref o, .int z49, .int z47], w34, 0, 0)) rfl trivial ?_
      refine hx_gf (l := 31) rfl rfl rfl g44 ((hx_kf m37 (hx_mem hG0 (by decide)) g32 g44).trans ((hx_kf m25 (hx_mem hG0 (by decide)) g20 g32).trans ((hx_kf m7 (hx_mem hG0 (by decide)) g2 g20).trans e14))) ?_
      refine hx_k (l := 33) (m := 68) rfl rfl (by decide) (fun z51 h52 => ?_)
      obtain ⟨f53, g54, r55⟩ := hx_row hw35 hG15 (s := 32) (kd := 0) (n := 5721) rfl (by decide)
      refine hx_il (l := 34) rfl rfl g54 (by omega) (by omega) (fun z56 h57 => ?_)
      have b58 := ((hf36.1.1 _ _ hG15 g54).1 z51.toInt.toNat (by omega)).1.2.2.2 (by omega)
      rw [← h57] at b58
      refine hx_mul (l := 35) rfl rfl (fun z59 h60 => ?_)
      rw [h50] at h60
      replace h60 := h60 (by omega) (by omega)
      refine hx_add (l := 36) rfl rfl (fun z61 h62 => ?_)
      replace h62 := h62 (by omega) (by omega)
      refine ax_go 2 (y := (39, [some (.ref o), some (.int p), some (.int z9), some (.int z27), some (.int z61)], [.ref o], w34, 0, 0)) rfl trivial ?_
      refine hx_gf (l := 42) rfl rfl rfl g44 ((hx_kf m37 (hx_mem hG0 (by decide)) g32 g44).trans ((hx_kf m25 (hx_mem hG0 (by decide)) g20 g32).trans ((hx_kf m7 (hx_mem hG0 (by decide)) g2 g20).trans e14))) ?_
      refine ax_go 2 (y := (45, [some (.ref o), some (.int p), some (.int z9), some (.int z27), some (.int z61)], [.int p, .int z61, .ref p13], w34, 0, 0)) rfl trivial ?_
      refine hx_is (s := 32) (l := 46) rfl rfl rfl hw35 hG15 g54 (by omega) (by omega) (hx_sg1 (fun _ _ _ => ⟨by omega, by omega⟩) (hx_sg1 (fun _ _ _ => ⟨by omega, by omega⟩) (hx_sg1 (fun _ _ _ => ⟨by omega, by omega⟩) (hx_sg1 (fun _ _ _ => ⟨by omega, by omega⟩) (hx_sg1 (fun _ _ _ => ⟨by omega, by omega⟩) (hx_sg1 (fun _ _ _ => ⟨by omega, by omega⟩) (hx_sg1 (fun _ _ _ => ⟨by omega, by omega⟩) (hx_sg1 (fun _ _ _ => ⟨by omega, by omega⟩) (hx_sg1 (fun _ _ _ => ⟨by omega, by omega⟩) hx_sg0))))))))) (fun w63 f64 g65 e66 o67 n68 hw69 n70 => ?_)
      have hs71 := ty_same_tr hs38 (n70 fz (hx_ok hfz (by decide)))
      have kp73 := hf36.1.1 _ _ hG15 g54
      have kq74 : kb z61.toInt.toNat p.toInt := ⟨⟨fun _ => by omega, fun _ _ _ => by omega, fun _ _ _ => by omega, fun _ => by omega⟩, fun _ _ => by omega, fun _ _ _ => by omega, fun _ => by omega, fun _ => by omega, fun _ => by omega, fun _ => by omega, fun _ => by omega, fun _ _ => by omega⟩
      have hf72 : F9 G F w63 := ⟨FM_k hf36.1 hG15 g65 n68 (KP_up kp73 o67 (by rw [e66]; exact kq74) (by omega)), hF _ _ (smt_k (n70 prM (by decide)) g54 g65 n68 (fun j hj => o67 j (by omega))) hf36.2⟩
      refine ax_go 1 (y := (47, [some (.ref o), some (.int p), some (.int z9), some (.int z27), some (.int z61)], [.ref o], w63, 0, 0)) rfl trivial ?_
      refine hx_gf (l := 50) rfl rfl rfl ((n68 _ (hx_ne hG0 hG15 (by decide))).trans g44) ((hx_kf m37 (hx_mem hG0 (by decide)) g32 g44).trans ((hx_kf m25 (hx_mem hG0 (by decide)) g20 g32).trans ((hx_kf m7 (hx_mem hG0 (by decide)) g2 g20).trans e14))) ?_
      refine ax_go 1 (y := (52, [some (.ref o), some (.int p), some (.int z9), some (.int z27), some (.int z61)], [.int z61, .ref p13], w63, 0, 0)) rfl trivial ?_
      refine hx_k (l := 53) (m := 1) rfl rfl (by decide) (fun z75 h76 => ?_)
      refine hx_add (l := 54) rfl rfl (fun z77 h78 => ?_)
      replace h78 := h78 (by omega) (by omega)
      refine ax_go 1 (y := (55, [some (.ref o), some (.int p), some (.int z9), some (.int z27), some (.int z61)], [.int z9, .int z77, .ref p13], w63, 0, 0)) rfl trivial ?_
      refine hx_is (s := 32) (l := 56) rfl rfl rfl hw69 hG15 g65 (by omega) (by omega) (hx_sg1 (fun _ _ _ => ⟨by omega, by omega⟩) (hx_sg1 (fun _ _ _ => ⟨by omega, by omega⟩) (hx_sg1 (fun _ _ _ => ⟨by omega, by omega⟩) (hx_sg1 (fun _ _ _ => ⟨by omega, by omega⟩) (hx_sg1 (fun _ _ _ => ⟨by omega, by omega⟩) (hx_sg1 (fun _ _ _ => ⟨by omega, by omega⟩) (hx_sg1 (fun _ _ _ => ⟨by omega, by omega⟩) (hx_sg1 (fun _ _ _ => ⟨by omega, by omega⟩) (hx_sg1 (fun _ _ _ => ⟨by omega, by omega⟩) hx_sg0))))))))) (fun w79 f80 g81 e82 o83 n84 hw85 n86 => ?_)
      have hs87 := ty_same_tr hs71 (n86 fz (hx_ok hfz (by decide)))
      have kp89 := hf72.1.1 _ _ hG15 g65
      have kq90 : kb z77.toInt.toNat z9.toInt := ⟨⟨fun _ => by omega, fun _ _ _ => by omega, fun _ _ _ => by omega, fun _ => by omega⟩, fun _ _ => by omega, fun _ _ _ => by omega, fun _ => by omega, fun _ => by omega, fun _ => by omega, fun _ => by omega, fun _ => by omega, fun _ _ => by omega⟩
      have hf88 : F9 G F w79 := ⟨FM_k hf72.1 hG15 g81 n84 (KP_up kp89 o83 (by rw [e82]; exact kq90) (by omega)), hF _ _ (smt_k (n86 prM (by decide)) g65 g81 n84 (fun j hj => o83 j (by omega))) hf72.2⟩
      refine ax_go 1 (y := (57, [some (.ref o), some (.int p), some (.int z9), some (.int z27), some (.int z61)], [.ref o], w79, 0, 0)) rfl trivial ?_
      refine hx_gf (l := 60) rfl rfl rfl ((n84 _ (hx_ne hG0 hG15 (by decide))).trans ((n68 _ (hx_ne hG0 hG15 (by decide))).trans g44)) ((hx_kf m37 (hx_mem hG0 (by decide)) g32 g44).trans ((hx_kf m25 (hx_mem hG0 (by decide)) g20 g32).trans ((hx_kf m7 (hx_mem hG0 (by decide)) g2 g20).trans e14))) ?_
      refine ax_go 1 (y := (62, [some (.ref o), some (.int p), some (.int z9), some (.int z27), some (.int z61)], [.int z61, .ref p13], w79, 0, 0)) rfl trivial ?_
      refine hx_k (l := 63) (m := 2) rfl rfl (by decide) (fun z91 h92 => ?_)
      refine hx_add (l := 64) rfl rfl (fun z93 h94 => ?_)
      replace h94 := h94 (by omega) (by omega)
      refine ax_go 1 (y := (65, [some (.ref o), some (.int p), some (.int z9), some (.int z27), some (.int z61)], [.int z27, .int z93, .ref p13], w79, 0, 0)) rfl trivial ?_
      refine hx_is (s := 32) (l := 66) rfl rfl rfl hw85 hG15 g81 (by omega) (by omega) (hx_sg1 (fun _ _ _ => ⟨by omega, by omega⟩) (hx_sg1 (fun _ _ _ => ⟨by omega, by omega⟩) (hx_sg1 (fun _ _ _ => ⟨by omega, by omega⟩) (hx_sg1 (fun _ _ _ => ⟨by omega, by omega⟩) (hx_sg1 (fun _ _ _ => ⟨by omega, by omega⟩) (hx_sg1 (fun _ _ _ => ⟨by omega, by omega⟩) (hx_sg1 (fun _ _ _ => ⟨by omega, by omega⟩) (hx_sg1 (fun _ _ _ => ⟨by omega, by omega⟩) (hx_sg1 (fun _ _ _ => ⟨by omega, by omega⟩) hx_sg0))))))))) (fun w95 f96 g97 e98 o99 n100 hw101 n102 => ?_)
      have hs103 := ty_same_tr hs87 (n102 fz (hx_ok hfz (by decide)))
      have kp105 := hf88.1.1 _ _ hG15 g81
      have kq106 : kb z93.toInt.toNat z27.toInt := ⟨⟨fun _ => by omega, fun _ _ _ => by omega, fun _ _ _ => by omega, fun _ => by omega⟩, fun _ _ => by omega, fun _ _ _ => by omega, fun _ => by omega, fun _ => by omega, fun _ => by omega, fun _ => by omega, fun _ => by omega, fun _ _ => by omega⟩
      have hf104 : F9 G F w95 := ⟨FM_k hf88.1 hG15 g97 n100 (KP_up kp105 o99 (by rw [e98]; exact kq106) (by omega)), hF _ _ (smt_k (n102 prM (by decide)) g81 g97 n100 (fun j hj => o99 j (by omega))) hf88.2⟩
      refine ax_go 1 (y := (67, [some (.ref o), some (.int p), some (.int z9), some (.int z27), some (.int z61)], [.ref o], w95, 0, 0)) rfl trivial ?_
      refine hx_gf (l := 70) rfl rfl rfl ((n100 _ (hx_ne hG0 hG15 (by decide))).trans ((n84 _ (hx_ne hG0 hG15 (by decide))).trans ((n68 _ (hx_ne hG0 hG15 (by decide))).trans g44))) ((hx_kf m37 (hx_mem hG0 (by decide)) g32 g44).trans ((hx_kf m25 (hx_mem hG0 (by decide)) g20 g32).trans ((hx_kf m7 (hx_mem hG0 (by decide)) g2 g20).trans e14))) ?_
      refine hx_k (l := 72) (m := 68) rfl rfl (by decide) (fun z107 h108 => ?_)
      refine ax_go 1 (y := (73, [some (.ref o), some (.int p), some (.int z9), some (.int z27), some (.int z61)], [.int z107, .ref p13, .int z107, .ref p13], w95, 0, 0)) rfl trivial ?_
      have r109 := hx_rq hw101 g97 hG15 (s := 32) rfl
      refine hx_il (l := 74) rfl rfl g97 (by omega) (by omega) (fun z110 h111 => ?_)
      have b112 : 0 ≤ z110.toInt ∧ z110.toInt ≤ 15 := by
        rw [h111, show z107.toInt.toNat = 68 by omega, o99 68 (by omega), o83 68 (by omega)]
        by_cases zz : z56.toInt = 16
        · rw [show 68 = z61.toInt.toNat by omega, e66]
          omega
        · rw [o67 68 (by omega), show 68 = z51.toInt.toNat by omega, ← h57]
          omega
      refine hx_k (l := 75) (m := 1) rfl rfl (by decide) (fun z113 h114 => ?_)
      refine hx_add (l := 76) rfl rfl (fun z115 h116 => ?_)
      replace h116 := h116 (by omega) (by omega)
      refine hx_is (s := 32) (l := 77) rfl rfl rfl hw101 hG15 g97 (by omega) (by omega) (hx_sg1 (fun _ _ _ => ⟨by omega, by omega⟩) (hx_sg1 (fun _ _ _ => ⟨by omega, by omega⟩) (hx_sg1 (fun _ _ _ => ⟨by omega, by omega⟩) (hx_sg1 (fun _ _ _ => ⟨by omega, by omega⟩) (hx_sg1 (fun _ _ _ => ⟨by omega, by omega⟩) (hx_sg1 (fun _ _ _ => ⟨by omega, by omega⟩) (hx_sg1 (fun _ _ _ => ⟨by omega, by omega⟩) (hx_sg1 (fun _ _ _ => ⟨by omega, by omega⟩) (hx_sg1 (fun _ _ _ => ⟨by omega, by omega⟩) hx_sg0))))))))) (fun w117 f118 g119 e120 o121 n122 hw123 n124 => ?_)
      have hs125 := ty_same_tr hs103 (n124 fz (hx_ok hfz (by decide)))
      have kp127 := hf104.1.1 _ _ hG15 g97
      have kq128 : kb z107.toInt.toNat z115.toInt := ⟨⟨fun _ => by omega, fun _ _ _ => by omega, fun _ _ _ => by omega, fun _ => by omega⟩, fun _ _ => by omega, fun _ _ _ => by omega, fun _ => by omega, fun _ => by omega, fun _ => by omega, fun _ => by omega, fun _ => by omega, fun _ _ => by omega⟩
      have hf126 : F9 G F w117 := ⟨FM_k hf104.1 hG15 g119 n122 (KP_up kp127 o121 (by rw [e120]; exact kq128) (by omega)), hF _ _ (smt_k (n124 prM (by decide)) g97 g119 n122 (fun j hj => o121 j (by omega))) hf104.2⟩
      refine ax_go 1 (y := (78, [some (.ref o), some (.int p), some (.int z9), some (.int z27), some (.int z61)], [.int z9], w117, 0, 0)) rfl trivial ?_
      exact ax_ret rfl rfl trivial ⟨some (.int z9), _, rfl, hw123, hf126, hs125, (hx_ti (G := G) (lo := 0) (hi := 98) (by omega) (by omega)), trivial⟩
    · -- 22
      refine hx_k (l := 23) (m := 0) rfl rfl (by decide) (fun z129 h130 => ?_)
      exact ax_ret rfl rfl trivial ⟨some (.int z129), _, rfl, hw35, hf36, hs38, (hx_ti (G := G) (lo := 0) (hi := 98) (by omega) (by omega)), trivial⟩
def fb_X9_allOnce : List (Nat × Nat) := [(8, 3), (8, 5), (19, 999), (33, 999), (34, 999), (35, 999), (44, 999), (45, 999), (1, 0), (18, 999), (2, 11), (2, 14), (1, 15), (54, 11), (4, 2), (7, 9), (30, 13), (30, 34), (30, 2), (30, 35), (30, 36), (7, 0), (24, 999), (37, 999), (30, 4), (30, 5), (30, 6), (30, 8), (30, 9), (30, 10), (30, 11), (30, 14), (30, 15), (30, 16), (30, 17), (30, 18), (30, 19), (30, 20), (30, 21), (39, 999), (40, 999), (41, 999), (30, 30), (30, 42), (30, 43), (30, 44), (1, 1), (1, 3), (1, 10), (1, 13), (8, 0), (30, 49), (2, 15), (8, 1)]
set_option maxHeartbeats 8000000 in
theorem h_X9_allOnce {ro : ab_R} {G : Nat → Nat} {fz : List (Nat × Nat)} {F : ab_W → Prop} (hF : ∀ w w', smt G w w' → F w → F w') (hfz : ∀ q ∈ fz, q ∈ fb_X9_allOnce) (d : Nat) : ck_ct ro sp_ G (F9 G F) fz (ab_Ev ro ab_codes (d + 72)) 207 [(2, 30, 0)] (some (0, (-2147483648), 2147483647)) 0 0 := by
  have hFF := F9_same hF
  refine ck_hand (d := d + 71) (by decide) (fun as w hw hf has => ?_)
  match as, has with
  | [v0], ⟨h0, _⟩ =>
    obtain ⟨o, rfl, _, hG0⟩ := ty_refn h0 rfl rfl
    replace hG0 : G o = 30 := hG0
    refine ⟨rfl, ?_⟩
    have ct97 : ∀ (nq : Nat) (w1 : ab_W) (ba2 : Int32) (p2 : Int32), ty_w sp_ G w1 → (F9 G F) w1 → ty_same G fz w w1 → (0 ≤ p2.toInt) → (p2.toInt ≤ 10) → (11 - p2.toInt).toNat < nq → ab_wp ro (ab_Ev ro ab_codes (d + 71)) 9 false (some .int) ab_k_X9_allOnce (fun o_1 => ∃ v w1, o_1 = (v, w1, 0, 0) ∧ ty_w sp_ G w1 ∧ (F9 G F) w1 ∧ ty_same G fz w w1 ∧ ck_res G (some (0, (-2147483648), 2147483647)) v ∧ ck_wit 0 0 [.ref o] v) (97, [some (.ref o), some (.int ba2), some (.int p2)], [], w1, 0, 0) := by
      intro nq
      induction nq with
      | zero => intro w1 ba2 p2 hw4 hf5 hs6 i2 i3 hm; exact absurd hm (Nat.not_lt_zero _)
      | succ nq ih97 =>
        intro w1 ba2 p2 hw4 hf5 hs6 i2 i3 hm97
        refine ax_go 2 (y := (99, [some (.ref o), some (.int ba2), some (.int p2)], [.ref o, .int p2], w1, 0, 0)) rfl trivial ?_
        obtain ⟨fs7, g8, -, q9⟩ := hx_obj hw4 hG0 (s := 30) rfl (by decide)
        obtain ⟨p10, e11, hG12⟩ := hx_fr (k := 2) (s := 32) q9 rfl
        refine hx_gf (l := 102) rfl rfl rfl g8 e11 ?_
        refine hx_k (l := 104) (m := 110) rfl rfl (by decide) (fun z13 h14 => ?_)
        obtain ⟨f15, g16, r17⟩ := hx_row hw4 hG12 (s := 32) (kd := 0) (n := 5721) rfl (by decide)
        refine hx_il (l := 105) rfl rfl g16 (by omega) (by omega) (fun z18 h19 => ?_)
        have b20 := ((hf5.1.1 _ _ hG12 g16).1 z13.toInt.toNat (by omega)).2.2.2.2.1 (by omega)
        rw [← h19] at b20
        refine hx_ic_ge (l := 108) rfl rfl (fun h21 => ?_) (fun h21 => ?_)
        · -- 133
          refine ax_go 1 (y := (134, [some (.ref o), some (.int ba2), some (.int p2)], [.ref o], w1, 0, 0)) rfl trivial ?_
          obtain ⟨x22, e23, a24, b25⟩ := hx_fi (k := 31) (lo := (-2147483648)) (hi := 2147483647) q9 rfl
          refine hx_gf (l := 137) rfl rfl rfl g8 e23 ?_
          exact ax_ret rfl rfl trivial ⟨some (.int x22), _, rfl, hw4, hf5, hs6, (ck_top_ok (G := G) x22), trivial⟩
        · -- 108
          refine ax_go 2 (y := (110, [some (.ref o), some (.int ba2), some (.int p2)], [.int p2, .int ba2], w1, 0, 0)) rfl trivial ?_
          refine hx_ci (l := 113) (as := [.int ba2, .int p2]) rfl rfl rfl (cc_X9_isIn_0 (fz := fz) hFF  (fun q hq => (by decide +kernel : ∀ q ∈ fb_X9_allOnce, q ∈ fr_X9_isIn_0) q (hfz q hq)) (d + 70)) hw4 hf5 ⟨(ck_top_ok (G := G) ba2), (ck_top_ok (G := G) p2), trivial⟩ (fun w26 z31 hw27 hf28 m29 a32 b33 u34 => ?_)
          have hs30 := ty_same_tr hs6 m29
          refine hx_if_eq (l := 116) rfl rfl (fun h35 => ?_) (fun h35 => ?_)
          · -- 127
            refine hx_iinc (x := p2) (n := 1) (l := 130) rfl rfl rfl (Nat.le_of_ble_eq_true rfl) (by omega) (by omega) (by decide) (fun z36 h37 => ?_)
            change ab_wp ro (ab_Ev ro ab_codes (d + 71)) 9 false (some .int) ab_k_X9_allOnce (fun o_1 => ∃ v w1, o_1 = (v, w1, 0, 0) ∧ ty_w sp_ G w1 ∧ (F9 G F) w1 ∧ ty_same G fz w w1 ∧ ck_res G (some (0, (-2147483648), 2147483647)) v ∧ ck_wit 0 0 [.ref o] v) (130, [some (.ref o), some (.int ba2), some (.int z36)], [], w26, 0, 0)
            refine ax_go 1 (y := (97, [some (.ref o), some (.int ba2), some (.int z36)], [], w26, 0, 0)) rfl trivial ?_
            exact ih97 w26 ba2 z36 hw27 hf28 hs30 (by omega) (by omega) (by omega)
          · -- 116
            refine ax_go 1 (y := (117, [some (.ref o), some (.int ba2), some (.int p2)], [.ref o], w26, 0, 0)) rfl trivial ?_
            obtain ⟨fs38, g39, -, q40⟩ := hx_obj hw27 hG0 (s := 30) rfl (by decide)
            obtain ⟨p41, e42, hG43⟩ := hx_fr (k := 36) (s := 47) q40 rfl
            refine hx_gf (l := 120) rfl rfl rfl g39 e42 ?_
            refine ax_go 3 (y := (123, [some (.ref o), some (.int ba2), some (.int p2)], [.int p2, .ref o, .int p2, .ref p41], w26, 0, 0)) rfl trivial ?_
            obtain ⟨p53, e54, hG55⟩ := hx_fr (k := 2) (s := 32) q40 rfl
            obtain ⟨f56, g57, r58⟩ := hx_row hw27 hG55 (s := 32) (kd := 0) (n := 5721) rfl (by decide)
            refine hx_pi (l := 126) (as := [.ref o, .int p2]) rfl rfl (hx_iv (j := 185) (n := 1) (o := o) (r := [.int p2, .ref p41]) rfl rfl g39 rfl) (hp_X9_overOf (fz := ([(32, 999), (30, 2), (30, 35), (30, 36)] ++ fz)) hF (hx_app (by decide +kernel) (fun q hq => (by decide +kernel : ∀ q ∈ fb_X9_allOnce, q ∈ fb_hp_X9_overOf) q (hfz q hq))) (d + 7)) hw27 hf28 ⟨(hx_tr (G := G) (s := 30) (b := 0) hG0 (by decide)), (hx_ti (G := G) (lo := 0) (hi := 9) (by omega) (by omega)), trivial⟩ trivial (fun w44 z49 hw45 hf46 m47 a50 b51 u52 => ?_)
            have hs48 := ty_same_tr hs30 (hx_sapp m47)
            obtain ⟨fs59, g60, -, q61⟩ := hx_obj hw45 hG0 (s := 30) rfl (by decide)
            replace u52 := u52 _ _ _ _ _ rfl ⟨_, g39, e54⟩ g57 rfl
            obtain ⟨f62, g63, r64⟩ := hx_row hw45 hG43 (s := 47) (kd := 0) (n := 10) rfl (by decide)
            refine hx_is (s := 47) (l := 127) rfl rfl rfl hw45 hG43 g63 (by omega) (by omega) (hx_sg1 (fun _ _ _ => ⟨by omega, by omega⟩) hx_sg0) (fun w65 f66 g67 e68 o69 n70 hw71 n72 => ?_)
            have hs73 := ty_same_tr hs48 (n72 fz (hx_ok hfz (by decide)))
            have hf74 := hFF _ _ (n72 pr_ (by decide)) hf46
            refine hx_iinc (x := p2) (n := 1) (l := 130) rfl rfl rfl (Nat.le_of_ble_eq_true rfl) (by omega) (by omega) (by decide) (fun z75 h76 => ?_)
            change ab_wp ro (ab_Ev ro ab_codes (d + 71)) 9 false (some .int) ab_k_X9_allOnce (fun o_1 => ∃ v w1, o_1 = (v, w1, 0, 0) ∧ ty_w sp_ G w1 ∧ (F9 G F) w1 ∧ ty_same G fz w w1 ∧ ck_res G (some (0, (-2147483648), 2147483647)) v ∧ ck_wit 0 0 [.ref o] v) (130, [some (.ref o), some (.int ba2), some (.int z75)], [], w65, 0, 0)
            refine ax_go 1 (y := (97, [some (.ref o), some (.int ba2), some (.int z75)], [], w65, 0, 0)) rfl trivial ?_
            exact ih97 w65 ba2 z75 hw71 hf74 hs73 (by omega) (by omega) (by omega)
    have ct17 : ∀ (nq : Nat) (w77 : ab_W) (ba : Int32) (p : Int32), ty_w sp_ G w77 → (F9 G F) w77 → ty_same G fz w w77 → (-1 ≤ p.toInt) → (p.toInt ≤ 9) → (p.toInt + 1).toNat < nq → ab_wp ro (ab_Ev ro ab_codes (d + 71)) 9 false (some .int) ab_k_X9_allOnce (fun o_1 => ∃ v w1, o_1 = (v, w1, 0, 0) ∧ ty_w sp_ G w1 ∧ (F9 G F) w1 ∧ ty_same G fz w w1 ∧ ck_res G (some (0, (-2147483648), 2147483647)) v ∧ ck_wit 0 0 [.ref o] v) (17, [some (.ref o), some (.int ba), some (.int p)], [], w77, 0, 0) := by
      intro nq
      induction nq with
      | zero => intro w77 ba p hw80 hf81 hs82 i78 i79 hm; exact absurd hm (Nat.not_lt_zero _)
      | succ nq ih17 =>
        intro w77 ba p hw80 hf81 hs82 i78 i79 hm17
        refine ax_go 1 (y := (18, [some (.ref o), some (.int ba), some (.int p)], [.int p], w77, 0, 0)) rfl trivial ?_
        refine hx_if_lt (l := 21) rfl rfl (fun h83 => ?_) (fun h83 => ?_)
        · -- 95
          refine hx_k (l := 96) (m := 0) rfl rfl (by decide) (fun z84 h85 => ?_)
          refine ax_go 1 (y := (97, [some (.ref o), some (.int ba), some (.int z84)], [], w77, 0, 0)) rfl trivial ?_
          exact ct97 _ w77 ba z84 hw80 hf81 hs82 (by omega) (by omega) (Nat.lt_succ_self _)
        · -- 21
          refine ax_go 1 (y := (22, [some (.ref o), some (.int ba), some (.int p)], [.ref o], w77, 0, 0)) rfl trivial ?_
          obtain ⟨fs86, g87, -, q88⟩ := hx_obj hw80 hG0 (s := 30) rfl (by decide)
          obtain ⟨p89, e90, hG91⟩ := hx_fr (k := 35) (s := 46) q88 rfl
          refine hx_gf (l := 25) rfl rfl rfl g87 e90 ?_
          refine ax_go 1 (y := (26, [some (.ref o), some (.int ba), some (.int p)], [.int p, .ref p89], w77, 0, 0)) rfl trivial ?_
          refine hx_k (l := 27) (m := 0) rfl rfl (by decide) (fun z92 h93 => ?_)
          obtain ⟨f94, g95, r96⟩ := hx_row hw80 hG91 (s := 46) (kd := 0) (n := 10) rfl (by decide)
          refine hx_is (s := 46) (l := 28) rfl rfl rfl hw80 hG91 g95 (by omega) (by omega) (hx_sg1 (fun _ _ _ => ⟨by omega, by omega⟩) hx_sg0) (fun w97 f98 g99 e100 o101 n102 hw103 n104 => ?_)
          have hs105 := ty_same_tr hs82 (n104 fz (hx_ok hfz (by decide)))
          have hf106 := hFF _ _ (n104 pr_ (by decide)) hf81
          refine ax_go 1 (y := (29, [some (.ref o), some (.int ba), some (.int p)], [.ref o], w97, 0, 0)) rfl trivial ?_
          obtain ⟨p107, e108, hG109⟩ := hx_fr (k := 36) (s := 47) q88 rfl
          refine hx_gf (l := 32) rfl rfl rfl ((n102 _ (hx_ne hG0 hG91 (by decide))).trans g87) e108 ?_
          refine ax_go 3 (y := (35, [some (.ref o), some (.int ba), some (.int p)], [.int p, .ref o, .int p, .ref p107], w97, 0, 0)) rfl trivial ?_
          obtain ⟨p119, e120, hG121⟩ := hx_fr (k := 2) (s := 32) q88 rfl
          obtain ⟨f122, g123, r124⟩ := hx_row hw103 hG121 (s := 32) (kd := 0) (n := 5721) rfl (by decide)
          refine hx_pi (l := 38) (as := [.ref o, .int p]) rfl rfl (hx_iv (j := 185) (n := 1) (o := o) (r := [.int p, .ref p107]) rfl rfl ((n102 _ (hx_ne hG0 hG91 (by decide))).trans g87) rfl) (hp_X9_overOf (fz := ([(32, 999), (30, 2), (30, 35), (30, 36)] ++ fz)) hF (hx_app (by decide +kernel) (fun q hq => (by decide +kernel : ∀ q ∈ fb_X9_allOnce, q ∈ fb_hp_X9_overOf) q (hfz q hq))) (d + 7)) hw103 hf106 ⟨(hx_tr (G := G) (s := 30) (b := 0) hG0 (by decide)), (hx_ti (G := G) (lo := 0) (hi := 9) (by omega) (by omega)), trivial⟩ trivial (fun w110 z115 hw111 hf112 m113 a116 b117 u118 => ?_)
          have hs114 := ty_same_tr hs105 (hx_sapp m113)
          obtain ⟨fs125, g126, -, q127⟩ := hx_obj hw111 hG0 (s := 30) rfl (by decide)
          replace u118 := u118 _ _ _ _ _ rfl ⟨_, ((n102 _ (hx_ne hG0 hG91 (by decide))).trans g87), e120⟩ g123 rfl
          obtain ⟨f128, g129, r130⟩ := hx_row hw111 hG109 (s := 47) (kd := 0) (n := 10) rfl (by decide)
          refine hx_is (s := 47) (l := 39) rfl rfl rfl hw111 hG109 g129 (by omega) (by omega) (hx_sg1 (fun _ _ _ => ⟨by omega, by omega⟩) hx_sg0) (fun w131 f132 g133 e134 o135 n136 hw137 n138 => ?_)
          have hs139 := ty_same_tr hs114 (n138 fz (hx_ok hfz (by decide)))
          have hf140 := hFF _ _ (n138 pr_ (by decide)) hf112
          refine ax_go 2 (y := (41, [some (.ref o), some (.int ba), some (.int p)], [.int p, .ref o], w131, 0, 0)) rfl trivial ?_
          refine hx_ci (l := 44) (as := [.ref o, .int p]) rfl rfl (hx_iv (j := 188) (n := 1) (o := o) (r := []) rfl rfl ((n136 _ (hx_ne hG0 hG109 (by decide))).trans g126) rfl) (h_X9_isBarred (fz := ([(32, 999), (30, 2), (30, 35), (30, 36)] ++ fz)) hF (hx_app (by decide +kernel) (fun q hq => (by decide +kernel : ∀ q ∈ fb_X9_allOnce, q ∈ fb_X9_isBarred) q (hfz q hq))) (d + 6)) hw137 hf140 ⟨(hx_tr (G := G) (s := 30) (b := 0) hG0 (by decide)), (hx_ti (G := G) (lo := 0) (hi := 9) (by omega) (by omega)), trivial⟩ (fun w141 z146 hw142 hf143 m144 a147 b148 u149 => ?_)
          have hs145 := ty_same_tr hs139 (hx_sapp m144)
          obtain ⟨fs150, g151, -, q152⟩ := hx_obj hw142 hG0 (s := 30) rfl (by decide)
          refine hx_if_eq (l := 47) rfl rfl (fun h153 => ?_) (fun h153 => ?_)
          · -- 56
            refine ax_go 1 (y := (57, [some (.ref o), some (.int ba), some (.int p)], [.ref o], w141, 0, 0)) rfl trivial ?_
            refine hx_gf (l := 60) rfl rfl rfl g151 ((hx_kf m144 (hx_mem hG0 (by decide)) ((n136 _ (hx_ne hG0 hG109 (by decide))).trans g126) g151).trans ((hx_kf m113 (hx_mem hG0 (by decide)) ((n102 _ (hx_ne hG0 hG91 (by decide))).trans g87) g126).trans e90)) ?_
            refine ax_go 3 (y := (63, [some (.ref o), some (.int ba), some (.int p)], [.int p, .ref o, .int p, .ref p89], w141, 0, 0)) rfl trivial ?_
            refine hx_pi (l := 66) (as := [.ref o, .int p]) rfl rfl (hx_iv (j := 186) (n := 1) (o := o) (r := [.int p, .ref p89]) rfl rfl g151 rfl) (hp_X9_walkersOf (fz := ([(32, 999), (30, 2), (30, 35), (30, 36)] ++ fz)) hF (hx_app (by decide +kernel) (fun q hq => (by decide +kernel : ∀ q ∈ fb_X9_allOnce, q ∈ fb_hp_X9_walkersOf) q (hfz q hq))) (d + 6)) hw142 hf143 ⟨(hx_tr (G := G) (s := 30) (b := 0) hG0 (by decide)), (hx_ti (G := G) (lo := 0) (hi := 9) (by omega) (by omega)), trivial⟩ trivial (fun w154 z159 hw155 hf156 m157 a160 b161 u162 => ?_)
            have hs158 := ty_same_tr hs145 (hx_sapp m157)
            obtain ⟨fs163, g164, -, q165⟩ := hx_obj hw155 hG0 (s := 30) rfl (by decide)
            replace u162 := u162 _ _ _ _ _ rfl ⟨_, g151, ((hx_kf m144 (hx_mem hG0 (by decide)) ((n136 _ (hx_ne hG0 hG109 (by decide))).trans g126) g151).trans ((hx_kf m113 (hx_mem hG0 (by decide)) ((n102 _ (hx_ne hG0 hG91 (by decide))).trans g87) g126).trans e120))⟩ ((hx_kr m144 (hx_mem hG121 (by decide))).trans ((n136 _ (hx_ne hG121 hG109 (by decide))).trans ((hx_kr m113 (hx_mem hG121 (by decide))).trans g123))) rfl
            obtain ⟨f166, g167, r168⟩ := hx_row hw155 hG91 (s := 46) (kd := 0) (n := 10) rfl (by decide)
            refine hx_is (s := 46) (l := 67) rfl rfl rfl hw155 hG91 g167 (by omega) (by omega) (hx_sg1 (fun _ _ _ => ⟨by omega, by omega⟩) hx_sg0) (fun w169 f170 g171 e172 o173 n174 hw175 n176 => ?_)
            have hs177 := ty_same_tr hs158 (n176 fz (hx_ok hfz (by decide)))
            have hf178 := hFF _ _ (n176 pr_ (by decide)) hf156
            refine ax_go 3 (y := (70, [some (.ref o), some (.int ba), some (.int p)], [.ref o, .int p, .ref o], w169, 0, 0)) rfl trivial ?_
            refine hx_gf (l := 73) rfl rfl rfl ((n174 _ (hx_ne hG0 hG91 (by decide))).trans g164) ((hx_kf m157 (hx_mem hG0 (by decide)) g151 g164).trans ((hx_kf m144 (hx_mem hG0 (by decide)) ((n136 _ (hx_ne hG0 hG109 (by decide))).trans g126) g151).trans ((hx_kf m113 (hx_mem hG0 (by decide)) ((n102 _ (hx_ne hG0 hG91 (by decide))).trans g87) g126).trans e90))) ?_
            refine ax_go 1 (y := (74, [some (.ref o), some (.int ba), some (.int p)], [.int p, .ref p89, .int p, .ref o], w169, 0, 0)) rfl trivial ?_
            have r179 := hx_rq hw175 g171 hG91 (s := 46) rfl
            refine hx_il (l := 75) rfl rfl g171 (by omega) (by omega) (fun z180 h181 => ?_)
            have b182 := r179 (0, 10, 1, 0, 0, 98) (by decide) p.toInt.toNat (show (0 : Nat) ≤ _ by omega) (show _ < (10 : Nat) by omega) (show _ % (1 : Nat) = 0 by omega)
            rw [← h181] at b182
            replace b182 : (0 : Int) ≤ z180.toInt ∧ z180.toInt ≤ 98 := b182
            have b183 : z180.toInt = z159.toInt := by rw [h181, show p.toInt.toNat = p.toInt.toNat by omega, e172]
            refine hx_p0 (l := 78) (as := [.ref o, .int p, .int z180]) rfl rfl (hx_iv (j := 191) (n := 2) (o := o) (r := []) rfl rfl ((n174 _ (hx_ne hG0 hG91 (by decide))).trans g164) rfl) (hp_X9_walksOff (fz := ([(30, 2), (30, 35), (30, 36)] ++ fz)) hF (hx_app (by decide +kernel) (fun q hq => (by decide +kernel : ∀ q ∈ fb_X9_allOnce, q ∈ fb_hp_X9_walksOff) q (hfz q hq))) (d + 69)) hw175 hf178 ⟨(hx_tr (G := G) (s := 30) (b := 0) hG0 (by decide)), (hx_ti (G := G) (lo := 0) (hi := 9) (by omega) (by omega)), (hx_ti (G := G) (lo := 0) (hi := 98) (by omega) (by omega)), trivial⟩ (fun y0 y1 y2 pk1 f1 h1 h2 h3 => by cases h1; obtain ⟨fs1, g1, e1⟩ := h2; obtain rfl := hx_inj ((n174 _ (hx_ne hG0 hG91 (by decide))).trans g164) g1; cases ((hx_kf m157 (hx_mem hG0 (by decide)) g151 g164).trans ((hx_kf m144 (hx_mem hG0 (by decide)) ((n136 _ (hx_ne hG0 hG109 (by decide))).trans g126) g151).trans ((hx_kf m113 (hx_mem hG0 (by decide)) ((n102 _ (hx_ne hG0 hG91 (by decide))).trans g87) g126).trans e120))).symm.trans e1; obtain rfl := hx_injr ((n174 _ (hx_ne hG121 hG91 (by decide))).trans ((hx_kr m157 (hx_mem hG121 (by decide))).trans ((hx_kr m144 (hx_mem hG121 (by decide))).trans ((n136 _ (hx_ne hG121 hG109 (by decide))).trans ((hx_kr m113 (hx_mem hG121 (by decide))).trans g123))))) h3; exact (by omega)) (fun w184 hw185 hf186 m187 u192 => ?_)
            have hs188 := ty_same_tr hs177 (hx_sapp m187)
            obtain ⟨fs193, g194, -, q195⟩ := hx_obj hw185 hG0 (s := 30) rfl (by decide)
            refine ax_go 3 (y := (81, [some (.ref o), some (.int ba), some (.int p)], [.ref o, .int p, .ref o], w184, 0, 0)) rfl trivial ?_
            refine hx_gf (l := 84) rfl rfl rfl g194 ((hx_kf m187 (hx_mem hG0 (by decide)) ((n174 _ (hx_ne hG0 hG91 (by decide))).trans g164) g194).trans ((hx_kf m157 (hx_mem hG0 (by decide)) g151 g164).trans ((hx_kf m144 (hx_mem hG0 (by decide)) ((n136 _ (hx_ne hG0 hG109 (by decide))).trans g126) g151).trans ((hx_kf m113 (hx_mem hG0 (by decide)) ((n102 _ (hx_ne hG0 hG91 (by decide))).trans g87) g126).trans e90)))) ?_
            refine ax_go 1 (y := (85, [some (.ref o), some (.int ba), some (.int p)], [.int p, .ref p89, .int p, .ref o], w184, 0, 0)) rfl trivial ?_
            obtain ⟨f196, g197, r198⟩ := hx_row hw185 hG91 (s := 46) (kd := 0) (n := 10) rfl (by decide)
            refine hx_il (l := 86) rfl rfl g197 (by omega) (by omega) (fun z199 h200 => ?_)
            have b201 := r198 (0, 10, 1, 0, 0, 98) (by decide) p.toInt.toNat (show (0 : Nat) ≤ _ by omega) (show _ < (10 : Nat) by omega) (show _ % (1 : Nat) = 0 by omega)
            rw [← h200] at b201
            replace b201 : (0 : Int) ≤ z199.toInt ∧ z199.toInt ≤ 98 := b201
            refine hx_c0 (l := 89) (as := [.ref o, .int p, .int z199]) rfl rfl (hx_iv (j := 193) (n := 2) (o := o) (r := []) rfl rfl g194 rfl) (h_X9_arrives (fz := fz) hF (fun q hq => (by decide +kernel : ∀ q ∈ fb_X9_allOnce, q ∈ fb_X9_arrives) q (hfz q hq)) (d + 69)) hw185 hf186 ⟨(hx_tr (G := G) (s := 30) (b := 0) hG0 (by decide)), (hx_ti (G := G) (lo := 0) (hi := 9) (by omega) (by omega)), (hx_ti (G := G) (lo := 0) (hi := 98) (by omega) (by omega)), trivial⟩ (fun w202 hw203 hf204 m205 => ?_)
            have hs206 := ty_same_tr hs188 m205
            refine hx_iinc (x := p) (n := (-1)) (l := 92) rfl rfl rfl (Nat.le_of_ble_eq_true rfl) (by omega) (by omega) (by decide) (fun z211 h212 => ?_)
            change ab_wp ro (ab_Ev ro ab_codes (d + 71)) 9 false (some .int) ab_k_X9_allOnce (fun o_1 => ∃ v w1, o_1 = (v, w1, 0, 0) ∧ ty_w sp_ G w1 ∧ (F9 G F) w1 ∧ ty_same G fz w w1 ∧ ck_res G (some (0, (-2147483648), 2147483647)) v ∧ ck_wit 0 0 [.ref o] v) (92, [some (.ref o), some (.int ba), some (.int z211)], [], w202, 0, 0)
            refine ax_go 1 (y := (17, [some (.ref o), some (.int ba), some (.int z211)], [], w202, 0, 0)) rfl trivial ?_
            exact ih17 w202 ba z211 hw203 hf204 hs206 (by omega) (by omega) (by omega)
          · -- 47
            refine ax_go 1 (y := (48, [some (.ref o), some (.int ba), some (.int p)], [.int ba], w141, 0, 0)) rfl trivial ?_
            refine hx_k (l := 49) (m := 1) rfl rfl (by decide) (fun z213 h214 => ?_)
            refine ax_go 1 (y := (50, [some (.ref o), some (.int ba), some (.int p)], [.int p, .int z213, .int ba], w141, 0, 0)) rfl trivial ?_
            refine hx_any (l := 51) rfl rfl (fun z215 => ?_)
            refine hx_any (l := 52) rfl rfl (fun z216 => ?_)
            refine ax_go 2 (y := (89, [some (.ref o), some (.int z216), some (.int p)], [], w141, 0, 0)) rfl trivial ?_
            refine hx_iinc (x := p) (n := (-1)) (l := 92) rfl rfl rfl (Nat.le_of_ble_eq_true rfl) (by omega) (by omega) (by decide) (fun z217 h218 => ?_)
            change ab_wp ro (ab_Ev ro ab_codes (d + 71)) 9 false (some .int) ab_k_X9_allOnce (fun o_1 => ∃ v w1, o_1 = (v, w1, 0, 0) ∧ ty_w sp_ G w1 ∧ (F9 G F) w1 ∧ ty_same G fz w w1 ∧ ck_res G (some (0, (-2147483648), 2147483647)) v ∧ ck_wit 0 0 [.ref o] v) (92, [some (.ref o), some (.int z216), some (.int z217)], [], w141, 0, 0)
            refine ax_go 1 (y := (17, [some (.ref o), some (.int z216), some (.int z217)], [], w141, 0, 0)) rfl trivial ?_
            exact ih17 w141 z216 z217 hw142 hf143 hs145 (by omega) (by omega) (by omega)
    change ab_wp ro (ab_Ev ro ab_codes (d + 71)) 9 false (some .int) ab_k_X9_allOnce (fun o_1 => ∃ v w1, o_1 = (v, w1, 0, 0) ∧ ty_w sp_ G w1 ∧ (F9 G F) w1 ∧ ty_same G fz w w1 ∧ ck_res G (some (0, (-2147483648), 2147483647)) v ∧ ck_wit 0 0 [.ref o] v) (0, [some (.ref o), none, none], [], w, 0, 0)
    refine ax_go 1 (y := (1, [some (.ref o), none, none], [.ref o], w, 0, 0)) rfl trivial ?_
    refine hx_k (l := 2) (m := 0) rfl rfl (by decide) (fun z219 h220 => ?_)
    obtain ⟨fs221, g222, -, q223⟩ := hx_obj hw hG0 (s := 30) rfl (by decide)
    refine hx_pf (q := (0, 0, 0, 0, (-2147483648), 2147483647)) (s := 30) (l := 5) (v := .int z219) rfl rfl rfl (by decide) rfl rfl rfl hw hG0 g222 trivial (ck_top_ok (G := G) z219) (fun w224 fs225 g226 e227 o228 n229 hw230 n231 => ?_)
    have hs232 := ty_same_tr (ty_same_rf w) (n231 fz (hx_ok hfz (by decide)))
    have hf233 := hFF _ _ (n231 pr_ (by decide)) hf
    refine hx_k (l := 6) (m := 0) rfl rfl (by decide) (fun z234 h235 => ?_)
    refine ax_go 2 (y := (8, [some (.ref o), some (.int z234), none], [.ref o], w224, 0, 0)) rfl trivial ?_
    have q236 := hx_oq hw230 g226 hG0 (s := 30) rfl
    obtain ⟨p237, e238, hG239⟩ := hx_fr (k := 2) (s := 32) q236 rfl
    refine hx_gf (l := 11) rfl rfl rfl g226 e238 ?_
    refine hx_k (l := 13) (m := 110) rfl rfl (by decide) (fun z240 h241 => ?_)
    obtain ⟨f242, g243, r244⟩ := hx_row hw230 hG239 (s := 32) (kd := 0) (n := 5721) rfl (by decide)
    refine hx_il (l := 14) rfl rfl g243 (by omega) (by omega) (fun z245 h246 => ?_)
    have b247 := ((hf233.1.1 _ _ hG239 g243).1 z240.toInt.toNat (by omega)).2.2.2.2.1 (by omega)
    rw [← h246] at b247
    refine hx_k (l := 15) (m := 1) rfl rfl (by decide) (fun z248 h249 => ?_)
    refine hx_sub (l := 16) rfl rfl (fun z250 h251 => ?_)
    replace h251 := h251 (by omega) (by omega)
    refine ax_go 1 (y := (17, [some (.ref o), some (.int z234), some (.int z250)], [], w224, 0, 0)) rfl trivial ?_
    exact ct17 _ w224 z234 z250 hw230 hf233 hs232 (by omega) (by omega) (Nat.lt_succ_self _)
def fb_hp_X9_onceWith : List (Nat × Nat) := [(8, 3), (8, 5), (19, 999), (33, 999), (34, 999), (44, 999), (45, 999), (1, 0), (18, 999), (2, 11), (2, 14), (1, 15), (54, 11), (4, 2), (7, 9), (30, 13), (30, 34), (30, 2), (30, 35), (30, 36), (7, 0), (24, 999), (37, 999), (30, 4), (30, 5), (30, 6), (30, 8), (30, 9), (30, 10), (30, 11), (30, 14), (30, 15), (30, 16), (30, 17), (30, 18), (30, 19), (30, 20), (30, 21), (39, 999), (40, 999), (41, 999), (30, 30), (30, 42), (30, 43), (30, 44), (1, 1), (1, 3), (1, 10), (1, 13), (8, 0), (30, 49), (2, 15), (8, 1)]
set_option maxHeartbeats 8000000 in
theorem hp_X9_onceWith {ro : ab_R} {G : Nat → Nat} {fz : List (Nat × Nat)} {F : ab_W → Prop} (hF : ∀ w w', smt G w w' → F w → F w') (hfz : ∀ q ∈ fz, q ∈ fb_hp_X9_onceWith) (d : Nat) : hx_ct ro sp_ G (F9 G F) fz (ab_Ev ro ab_codes (d + 74)) 208 [(2, 30, 0), (0, (-1), 9), (0, (-2147483648), 2147483647)] (some (0, (-2147483648), 2147483647)) (fun as w => ∀ (o : Nat) (p m : Int32) (pk : Nat) (f : Nat → Int32), as = [.ref o, .int p, .int m] → hx_has w o 9 2 (.ref pk) → w[pk]? = some (.inl (0, 5721, .inl f)) → p.toInt = -1 ∨ (0 ≤ (f p.toInt.toNat).toInt + m.toInt ∧ (f p.toInt.toNat).toInt + m.toInt ≤ 999)) (fun as w _ w1 => ∀ (o : Nat) (p m : Int32) (pk : Nat) (f : Nat → Int32), as = [.ref o, .int p, .int m] → hx_has w o 9 2 (.ref pk) → w[pk]? = some (.inl (0, 5721, .inl f)) → hx_has w1 o 9 2 (.ref pk) ∧ ∃ f2, w1[pk]? = some (.inl (0, 5721, .inl f2)) ∧ ∀ j : Nat, j < 71 → f2 j = f j) := by
  have hFF := F9_same hF
  refine hx_hand (d := d + 73) (by decide) (fun as w hw hf has hP => ?_)
  match as, has with
  | [v0, v1, v2], ⟨h0, h1, h2, _⟩ =>
    obtain ⟨o, rfl, _, hG0⟩ := ty_refn h0 rfl rfl
    replace hG0 : G o = 30 := hG0
    obtain ⟨p, rfl, hl1, hh1⟩ := ty_int h1 rfl
    replace hl1 : ((-1) : Int) ≤ p.toInt := hl1
    replace hh1 : p.toInt ≤ 9 := hh1
    obtain ⟨m, rfl, hl2, hh2⟩ := ty_int h2 rfl
    replace hl2 : ((-2147483648) : Int) ≤ m.toInt := hl2
    replace hh2 : m.toInt ≤ 2147483647 := hh2
    refine ⟨rfl, ?_⟩
    obtain ⟨fs1, g2, -, q3⟩ := hx_obj hw hG0 (s := 30) rfl (by decide)
    obtain ⟨pk, e_pk, hG_pk⟩ := hx_fr (k := 2) (s := 32) q3 rfl
    obtain ⟨pa, e_pa, hG_pa⟩ := hx_fr (k := 5) (s := 35) q3 rfl
    obtain ⟨f0, g_f0, r_f0⟩ := hx_row hw hG_pk (s := 32) (kd := 0) (n := 5721) rfl (by decide)
    have hp0 := hP o p m pk f0 rfl ⟨_, g2, e_pk⟩ g_f0
    change ab_wp ro (ab_Ev ro ab_codes (d + 73)) 9 false (some .int) ab_k_X9_onceWith (fun o_1 => ∃ v w1, o_1 = (v, w1, 0, 0) ∧ ty_w sp_ G w1 ∧ (F9 G F) w1 ∧ ty_same G fz w w1 ∧ ck_res G (some (0, (-2147483648), 2147483647)) v ∧ (fun as w _ w1 => ∀ (o : Nat) (p m : Int32) (pk : Nat) (f : Nat → Int32), as = [.ref o, .int p, .int m] → hx_has w o 9 2 (.ref pk) → w[pk]? = some (.inl (0, 5721, .inl f)) → hx_has w1 o 9 2 (.ref pk) ∧ ∃ f2, w1[pk]? = some (.inl (0, 5721, .inl f2)) ∧ ∀ j : Nat, j < 71 → f2 j = f j) ([.ref o, .int p, .int m] : List Value) w v w1) (0, [some (.ref o), some (.int p), some (.int m), none], [], w, 0, 0)
    refine ax_go 1 (y := (1, [some (.ref o), some (.int p), some (.int m), none], [.ref o], w, 0, 0)) rfl trivial ?_
    refine hx_k (l := 2) (m := 0) rfl rfl (by decide) (fun z4 h5 => ?_)
    refine hx_p0 (l := 5) (as := [.ref o, .int z4]) rfl rfl (hx_iv (j := 129) (n := 1) (o := o) (r := []) rfl rfl g2 rfl) (hp_X9_laysAside (fz := fz) hF (fun q hq => (by decide +kernel : ∀ q ∈ fb_hp_X9_onceWith, q ∈ fb_hp_X9_laysAside) q (hfz q hq)) (d + 72)) hw hf ⟨(hx_tr (G := G) (s := 30) (b := 0) hG0 (by decide)), (hx_ti (G := G) (lo := 0) (hi := 1) (by omega) (by omega)), trivial⟩ trivial (fun w6 hw7 hf8 m9 u14 => ?_)
    have hs10 := ty_same_tr (ty_same_rf w) m9
    obtain ⟨⟨fs15, gA16, eA17⟩, ⟨fs18, gB19, eB20⟩, gk21, ga22, gaq23, hcp24⟩ := u14 _ _ _ _ _ rfl ⟨_, g2, e_pk⟩ ⟨_, g2, e_pa⟩ g_f0
    obtain rfl : fs15 = fs18 := hx_inj gA16 gB19
    refine ax_go 1 (y := (6, [some (.ref o), some (.int p), some (.int m), none], [.int p], w6, 0, 0)) rfl trivial ?_
    refine hx_k (l := 7) (m := (-1)) rfl rfl (by decide) (fun z25 h26 => ?_)
    refine hx_ic_eq (l := 10) rfl rfl (fun h27 => ?_) (fun h27 => ?_)
    · -- 22
      refine ax_go 1 (y := (23, [some (.ref o), some (.int p), some (.int m), none], [.ref o], w6, 0, 0)) rfl trivial ?_
      refine hx_ci (l := 26) (as := [.ref o]) rfl rfl (hx_iv (j := 207) (n := 0) (o := o) (r := []) rfl rfl gA16 rfl) (h_X9_allOnce (fz := ([(30, 2), (30, 5), (35, 999)] ++ fz)) hF (hx_app (by decide +kernel) (fun q hq => (by decide +kernel : ∀ q ∈ fb_hp_X9_onceWith, q ∈ fb_X9_allOnce) q (hfz q hq))) (d + 1)) hw7 hf8 ⟨(hx_tr (G := G) (s := 30) (b := 0) hG0 (by decide)), trivial⟩ (fun w28 z33 hw29 hf30 m31 a34 b35 u36 => ?_)
      have hs32 := ty_same_tr hs10 (hx_sapp m31)
      obtain ⟨fs37, g38, -, q39⟩ := hx_obj hw29 hG0 (s := 30) rfl (by decide)
      refine ax_go 2 (y := (28, [some (.ref o), some (.int p), some (.int m), some (.int z33)], [.ref o], w28, 0, 0)) rfl trivial ?_
      refine hx_k (l := 29) (m := 0) rfl rfl (by decide) (fun z40 h41 => ?_)
      obtain ⟨f51, g52, r53⟩ := hx_row hw29 hG_pk (s := 32) (kd := 0) (n := 5721) rfl (by decide)
      refine hx_p0 (l := 32) (as := [.ref o, .int z40]) rfl rfl (hx_iv (j := 130) (n := 1) (o := o) (r := []) rfl rfl g38 rfl) (hp_X9_takesBack (fz := fz) hF (fun q hq => (by decide +kernel : ∀ q ∈ fb_hp_X9_onceWith, q ∈ fb_hp_X9_takesBack) q (hfz q hq)) (d + 72)) hw29 hf30 ⟨(hx_tr (G := G) (s := 30) (b := 0) hG0 (by decide)), (hx_ti (G := G) (lo := 0) (hi := 1) (by omega) (by omega)), trivial⟩ trivial (fun w42 hw43 hf44 m45 u50 => ?_)
      have hs46 := ty_same_tr hs32 m45
      obtain ⟨⟨fs54, gA55, eA56⟩, ⟨fs57, gB58, eB59⟩, fn60, gk61, hlo62, hhi63⟩ := u50 _ _ _ _ _ _ rfl ⟨_, g38, ((hx_kf m31 (hx_mem hG0 (by decide)) gA16 g38).trans eA17)⟩ ⟨_, g38, ((hx_kf m31 (hx_mem hG0 (by decide)) gA16 g38).trans eB20)⟩ g52 ((hx_kr m31 (hx_mem hG_pa (by decide))).trans gaq23)
      obtain rfl : fs54 = fs57 := hx_inj gA55 gB58
      refine ax_go 1 (y := (33, [some (.ref o), some (.int p), some (.int m), some (.int z33)], [.int z33], w42, 0, 0)) rfl trivial ?_
      exact ax_ret rfl rfl trivial ⟨some (.int z33), _, rfl, hw43, hf44, hs46, (ck_top_ok (G := G) z33), (fun o1 p1 m1 q1 f1 h1 h2 h3 => by cases h1; obtain ⟨fs1, g1, e1⟩ := h2; obtain rfl := hx_inj g2 g1; cases e_pk.symm.trans e1; obtain rfl := hx_injr g_f0 h3; exact ⟨⟨_, gA55, eA56⟩, fn60, gk61, fun j hj => by rw [hlo62 j hj, show z40.toInt.toNat = z4.toInt.toNat by omega]; exact hcp24 j hj⟩)⟩
    · -- 10
      refine ax_go 1 (y := (11, [some (.ref o), some (.int p), some (.int m), none], [.ref o], w6, 0, 0)) rfl trivial ?_
      refine hx_gf (l := 14) rfl rfl rfl gA16 eA17 ?_
      refine hx_k (l := 15) (m := 0) rfl rfl (by decide) (fun z64 h65 => ?_)
      refine ax_go 1 (y := (16, [some (.ref o), some (.int p), some (.int m), none], [.int p, .int z64, .ref pk], w6, 0, 0)) rfl trivial ?_
      refine hx_add (l := 17) rfl rfl (fun z66 h67 => ?_)
      replace h67 := h67 (by omega) (by omega)
      refine ax_go 1 (y := (18, [some (.ref o), some (.int p), some (.int m), none], [.int z66, .ref pk, .int z66, .ref pk], w6, 0, 0)) rfl trivial ?_
      have r68 := hx_rq hw7 gk21 hG_pk (s := 32) rfl
      refine hx_il (l := 19) rfl rfl gk21 (by omega) (by omega) (fun z69 h70 => ?_)
      rw [show z66.toInt.toNat = p.toInt.toNat by omega] at h70
      replace h70 := congrArg Int32.toInt h70
      refine ax_go 1 (y := (20, [some (.ref o), some (.int p), some (.int m), none], [.int m, .int z69, .int z66, .ref pk], w6, 0, 0)) rfl trivial ?_
      refine hx_add (l := 21) rfl rfl (fun z71 h72 => ?_)
      replace h72 := h72 (by omega) (by omega)
      refine hx_is (s := 32) (l := 22) rfl rfl rfl hw7 hG_pk gk21 (by omega) (by omega) (hx_sg1 (fun _ _ _ => ⟨by omega, by omega⟩) (hx_sg1 (fun _ _ _ => ⟨by omega, by omega⟩) (hx_sg1 (fun _ _ _ => ⟨by omega, by omega⟩) (hx_sg1 (fun _ _ _ => ⟨by omega, by omega⟩) (hx_sg1 (fun _ _ _ => ⟨by omega, by omega⟩) (hx_sg1 (fun _ _ _ => ⟨by omega, by omega⟩) (hx_sg1 (fun _ _ _ => ⟨by omega, by omega⟩) (hx_sg1 (fun _ _ _ => ⟨by omega, by omega⟩) (hx_sg1 (fun _ _ _ => ⟨by omega, by omega⟩) hx_sg0))))))))) (fun w73 f74 g75 e76 o77 n78 hw79 n80 => ?_)
      have hs81 := ty_same_tr hs10 (n80 fz (hx_ok hfz (by decide)))
      have kp83 := hf8.1.1 _ _ hG_pk gk21
      have kq84 : kb z66.toInt.toNat z71.toInt := ⟨⟨fun _ => by omega, fun _ _ _ => by omega, fun _ _ _ => by omega, fun _ => by omega⟩, fun _ _ => by omega, fun _ _ _ => by omega, fun _ => by omega, fun _ => by omega, fun _ => by omega, fun _ => by omega, fun _ => by omega, fun _ _ => by omega⟩
      have hf82 : F9 G F w73 := ⟨FM_k hf8.1 hG_pk g75 n78 (KP_up kp83 o77 (by rw [e76]; exact kq84) (by omega)), hF _ _ (smt_k (n80 prM (by decide)) gk21 g75 n78 (fun j hj => o77 j (by omega))) hf8.2⟩
      refine ax_go 1 (y := (23, [some (.ref o), some (.int p), some (.int m), none], [.ref o], w73, 0, 0)) rfl trivial ?_
      refine hx_ci (l := 26) (as := [.ref o]) rfl rfl (hx_iv (j := 207) (n := 0) (o := o) (r := []) rfl rfl ((n78 _ (hx_ne hG0 hG_pk (by decide))).trans gA16) rfl) (h_X9_allOnce (fz := ([(30, 2), (30, 5), (35, 999)] ++ fz)) hF (hx_app (by decide +kernel) (fun q hq => (by decide +kernel : ∀ q ∈ fb_hp_X9_onceWith, q ∈ fb_X9_allOnce) q (hfz q hq))) (d + 1)) hw79 hf82 ⟨(hx_tr (G := G) (s := 30) (b := 0) hG0 (by decide)), trivial⟩ (fun w85 z90 hw86 hf87 m88 a91 b92 u93 => ?_)
      have hs89 := ty_same_tr hs81 (hx_sapp m88)
      obtain ⟨fs94, g95, -, q96⟩ := hx_obj hw86 hG0 (s := 30) rfl (by decide)
      refine ax_go 2 (y := (28, [some (.ref o), some (.int p), some (.int m), some (.int z90)], [.ref o], w85, 0, 0)) rfl trivial ?_
      refine hx_k (l := 29) (m := 0) rfl rfl (by decide) (fun z97 h98 => ?_)
      obtain ⟨f108, g109, r110⟩ := hx_row hw86 hG_pk (s := 32) (kd := 0) (n := 5721) rfl (by decide)
      refine hx_p0 (l := 32) (as := [.ref o, .int z97]) rfl rfl (hx_iv (j := 130) (n := 1) (o := o) (r := []) rfl rfl g95 rfl) (hp_X9_takesBack (fz := fz) hF (fun q hq => (by decide +kernel : ∀ q ∈ fb_hp_X9_onceWith, q ∈ fb_hp_X9_takesBack) q (hfz q hq)) (d + 72)) hw86 hf87 ⟨(hx_tr (G := G) (s := 30) (b := 0) hG0 (by decide)), (hx_ti (G := G) (lo := 0) (hi := 1) (by omega) (by omega)), trivial⟩ trivial (fun w99 hw100 hf101 m102 u107 => ?_)
      have hs103 := ty_same_tr hs89 m102
      obtain ⟨⟨fs111, gA112, eA113⟩, ⟨fs114, gB115, eB116⟩, fn117, gk118, hlo119, hhi120⟩ := u107 _ _ _ _ _ _ rfl ⟨_, g95, ((hx_kf m88 (hx_mem hG0 (by decide)) ((n78 _ (hx_ne hG0 hG_pk (by decide))).trans gA16) g95).trans eA17)⟩ ⟨_, g95, ((hx_kf m88 (hx_mem hG0 (by decide)) ((n78 _ (hx_ne hG0 hG_pk (by decide))).trans gA16) g95).trans eB20)⟩ g109 ((hx_kr m88 (hx_mem hG_pa (by decide))).trans ((n78 _ (hx_ne hG_pa hG_pk (by decide))).trans gaq23))
      obtain rfl : fs111 = fs114 := hx_inj gA112 gB115
      refine ax_go 1 (y := (33, [some (.ref o), some (.int p), some (.int m), some (.int z90)], [.int z90], w99, 0, 0)) rfl trivial ?_
      exact ax_ret rfl rfl trivial ⟨some (.int z90), _, rfl, hw100, hf101, hs103, (ck_top_ok (G := G) z90), (fun o1 p1 m1 q1 f1 h1 h2 h3 => by cases h1; obtain ⟨fs1, g1, e1⟩ := h2; obtain rfl := hx_inj g2 g1; cases e_pk.symm.trans e1; obtain rfl := hx_injr g_f0 h3; exact ⟨⟨_, gA112, eA113⟩, fn117, gk118, fun j hj => by rw [hlo119 j hj, show z97.toInt.toNat = z4.toInt.toNat by omega]; exact hcp24 j hj⟩)⟩
theorem h_X9_onceWith0 {ro : ab_R} {G : Nat → Nat} {fz : List (Nat × Nat)} {F : ab_W → Prop} (hF : ∀ w w', smt G w w' → F w → F w') (hfz : ∀ q ∈ fz, q ∈ fb_hp_X9_onceWith) (d : Nat) : ck_ct ro sp_ G (F9 G F) fz (ab_Ev ro ab_codes (d + 74)) 208 [(2, 30, 0), (0, (-1), (-1)), (0, 0, 0)] (some (0, (-2147483648), 2147483647)) 0 0 := by
  intro as w hw hf has
  match as, has with
  | [v0, v1, v2], ⟨h0, h1, h2, _⟩ =>
    obtain ⟨p, rfl, l1, l2⟩ := ty_int h1 rfl
    obtain ⟨m, rfl, l3, l4⟩ := ty_int h2 rfl
    replace l1 : ((-1) : Int) ≤ p.toInt := l1
    replace l2 : p.toInt ≤ (-1) := l2
    obtain ⟨is, as', wc, v, w1, mc, ms, k1, k2, k3, k4, k5, k6, k7⟩ := hp_X9_onceWith hF hfz d [v0, .int p, .int m] w hw hf ⟨h0, (hx_ti (G := G) (lo := (-1)) (hi := 9) (by omega) (by omega)), (ck_top_ok (G := G) m), trivial⟩ (fun o1 p1 m1 q1 f1 e1 _ _ => by cases e1; exact Or.inl (by omega))
    exact ⟨is, as', wc, v, w1, mc, ms, k1, k2, k3, k4, k5, k6, k7.1, k7.2.1, k7.2.2.1, k7.2.2.2.1, k7.2.2.2.2.1, k7.2.2.2.2.2.1, trivial⟩
def fb_X9_isHidden : List (Nat × Nat) := [(8, 3), (8, 5), (19, 999), (33, 999), (34, 999), (44, 999), (45, 999), (1, 0), (18, 999), (2, 11), (2, 14), (1, 15), (54, 11), (4, 2), (7, 9), (30, 13), (30, 34), (30, 2), (30, 35), (30, 36), (7, 0), (24, 999), (37, 999), (30, 4), (30, 5), (30, 6), (30, 8), (30, 9), (30, 10), (30, 11), (30, 14), (30, 15), (30, 16), (30, 17), (30, 18), (30, 19), (30, 20), (30, 21), (39, 999), (40, 999), (41, 999), (30, 30), (30, 42), (30, 43), (30, 44), (1, 1), (1, 3), (1, 10), (1, 13), (8, 0), (30, 49), (2, 15), (8, 1)]
set_option maxHeartbeats 8000000 in
theorem h_X9_isHidden {ro : ab_R} {G : Nat → Nat} {fz : List (Nat × Nat)} {F : ab_W → Prop} (hF : ∀ w w', smt G w w' → F w → F w') (hfz : ∀ q ∈ fz, q ∈ fb_X9_isHidden) (d : Nat) : ck_ct ro sp_ G (F9 G F) fz (ab_Ev ro ab_codes (d + 75)) 221 [(2, 30, 0), (0, 0, 9)] (some (0, 0, 1)) 0 0 := by
  have hFF := F9_same hF
  refine ck_hand (d := d + 74) (by decide) (fun as w hw hf has => ?_)
  match as, has with
  | [v0, v1], ⟨h0, h1, _⟩ =>
    obtain ⟨o, rfl, _, hG0⟩ := ty_refn h0 rfl rfl
    replace hG0 : G o = 30 := hG0
    obtain ⟨p, rfl, hl1, hh1⟩ := ty_int h1 rfl
    replace hl1 : (0 : Int) ≤ p.toInt := hl1
    replace hh1 : p.toInt ≤ 9 := hh1
    refine ⟨rfl, ?_⟩
    change ab_wp ro (ab_Ev ro ab_codes (d + 74)) 9 false (some .boolean) ab_k_X9_isHidden (fun o_1 => ∃ v w1, o_1 = (v, w1, 0, 0) ∧ ty_w sp_ G w1 ∧ (F9 G F) w1 ∧ ty_same G fz w w1 ∧ ck_res G (some (0, 0, 1)) v ∧ ck_wit 0 0 [.ref o, .int p] v) (0, [some (.ref o), some (.int p)], [], w, 0, 0)
    refine ax_go 1 (y := (1, [some (.ref o), some (.int p)], [.ref o], w, 0, 0)) rfl trivial ?_
    obtain ⟨fs1, g2, -, q3⟩ := hx_obj hw hG0 (s := 30) rfl (by decide)
    obtain ⟨p4, e5, hG6⟩ := hx_fr (k := 2) (s := 32) q3 rfl
    refine hx_gf (l := 4) rfl rfl rfl g2 e5 ?_
    refine hx_k (l := 5) (m := 0) rfl rfl (by decide) (fun z7 h8 => ?_)
    refine ax_go 1 (y := (6, [some (.ref o), some (.int p)], [.int p, .int z7, .ref p4], w, 0, 0)) rfl trivial ?_
    refine hx_add (l := 7) rfl rfl (fun z9 h10 => ?_)
    replace h10 := h10 (by omega) (by omega)
    obtain ⟨f11, g12, r13⟩ := hx_row hw hG6 (s := 32) (kd := 0) (n := 5721) rfl (by decide)
    refine hx_il (l := 8) rfl rfl g12 (by omega) (by omega) (fun z14 h15 => ?_)
    have b16 := ((hf.1.1 _ _ hG6 g12).1 z9.toInt.toNat (by omega)).1.1 (by omega)
    rw [← h15] at b16
    rw [show z9.toInt.toNat = p.toInt.toNat by omega] at h15
    replace h15 := congrArg Int32.toInt h15
    refine hx_if_ne (l := 11) rfl rfl (fun h17 => ?_) (fun h17 => ?_)
    · -- 13
      refine ax_go 2 (y := (15, [some (.ref o), some (.int p)], [.int p, .ref o], w, 0, 0)) rfl trivial ?_
      refine hx_k (l := 16) (m := (-1)) rfl rfl (by decide) (fun z18 h19 => ?_)
      refine hx_pi (l := 19) (as := [.ref o, .int p, .int z18]) rfl rfl (hx_iv (j := 208) (n := 2) (o := o) (r := []) rfl rfl g2 rfl) (hp_X9_onceWith (fz := fz) hF (fun q hq => (by decide +kernel : ∀ q ∈ fb_X9_isHidden, q ∈ fb_hp_X9_onceWith) q (hfz q hq)) (d + 0)) hw hf ⟨(hx_tr (G := G) (s := 30) (b := 0) hG0 (by decide)), (hx_ti (G := G) (lo := (-1)) (hi := 9) (by omega) (by omega)), (ck_top_ok (G := G) z18), trivial⟩ (fun y0 y1 y2 pk1 f1 h1 h2 h3 => by cases h1; obtain ⟨fs1, g1, e1⟩ := h2; obtain rfl := hx_inj g2 g1; cases e5.symm.trans e1; obtain rfl := hx_injr g12 h3; exact (by omega)) (fun w20 z25 hw21 hf22 m23 a26 b27 u28 => ?_)
      have hs24 := ty_same_tr (ty_same_rf w) m23
      obtain ⟨⟨fs29, gA30, eA31⟩, fn32, gk33, hsm34⟩ := u28 _ _ _ _ _ rfl ⟨_, g2, e5⟩ g12
      refine ax_go 2 (y := (21, [some (.ref o), some (.int p)], [.ref o], w20, 0, 0)) rfl trivial ?_
      refine hx_ci (l := 24) (as := [.ref o]) rfl rfl (hx_iv (j := 220) (n := 0) (o := o) (r := []) rfl rfl gA30 rfl) (h_X9_isAllHeard (fz := fz) hF (fun q hq => (by decide +kernel : ∀ q ∈ fb_X9_isHidden, q ∈ fb_X9_isAllHeard) q (hfz q hq)) (d + 73)) hw21 hf22 ⟨(hx_tr (G := G) (s := 30) (b := 0) hG0 (by decide)), trivial⟩ (fun w35 z40 hw36 hf37 m38 a41 b42 u43 => ?_)
      have hs39 := ty_same_tr hs24 m38
      exact ax_ret rfl rfl ⟨hx_01 (by omega) (by omega), trivial⟩ ⟨some (.int z40), _, rfl, hw36, hf37, hs39, (hx_ti (G := G) (lo := 0) (hi := 1) (by omega) (by omega)), trivial⟩
    · -- 11
      refine hx_k (l := 12) (m := 0) rfl rfl (by decide) (fun z44 h45 => ?_)
      exact ax_ret rfl rfl ⟨hx_01 (by omega) (by omega), trivial⟩ ⟨some (.int z44), _, rfl, hw, hf, (ty_same_rf w), (hx_ti (G := G) (lo := 0) (hi := 1) (by omega) (by omega)), trivial⟩
def fb_X9_moved : List (Nat × Nat) := [(8, 3), (8, 5), (19, 999), (33, 999), (34, 999), (44, 999), (45, 999), (1, 0), (18, 999), (2, 11), (2, 14), (1, 15), (54, 11), (4, 2), (7, 9), (30, 13), (30, 34), (30, 2), (30, 35), (30, 36), (7, 0), (24, 999), (37, 999), (30, 4), (30, 5), (30, 6), (30, 8), (30, 9), (30, 10), (30, 11), (30, 14), (30, 15), (30, 16), (30, 17), (30, 18), (30, 19), (30, 20), (30, 21), (39, 999), (40, 999), (41, 999), (30, 30), (30, 42), (30, 43), (30, 44), (1, 1), (1, 3), (1, 10), (1, 13), (8, 0), (30, 49), (2, 15), (8, 1)]
set_option maxHeartbeats 8000000 in
theorem h_X9_moved {ro : ab_R} {G : Nat → Nat} {fz : List (Nat × Nat)} {F : ab_W → Prop} (hF : ∀ w w', smt G w w' → F w → F w') (hfz : ∀ q ∈ fz, q ∈ fb_X9_moved) (d : Nat) : ck_ct ro sp_ G (F9 G F) fz (ab_Ev ro ab_codes (d + 76)) 225 [(2, 30, 0), (0, (-2147483648), 2147483647)] (some (0, (-2147483648), 2147483647)) 0 0 := by
  have hFF := F9_same hF
  refine ck_hand (d := d + 75) (by decide) (fun as w hw hf has => ?_)
  match as, has with
  | [v0, v1], ⟨h0, h1, _⟩ =>
    obtain ⟨o, rfl, _, hG0⟩ := ty_refn h0 rfl rfl
    replace hG0 : G o = 30 := hG0
    obtain ⟨p, rfl, hl1, hh1⟩ := ty_int h1 rfl
    replace hl1 : ((-2147483648) : Int) ≤ p.toInt := hl1
    replace hh1 : p.toInt ≤ 2147483647 := hh1
    refine ⟨rfl, ?_⟩
    obtain ⟨fs1, g2, -, q3⟩ := hx_obj hw hG0 (s := 30) rfl (by decide)
    obtain ⟨pk, e_pk, hG_pk⟩ := hx_fr (k := 2) (s := 32) q3 rfl
    obtain ⟨f0, g_f0, r_f0⟩ := hx_row hw hG_pk (s := 32) (kd := 0) (n := 5721) rfl (by decide)
    have ct73 : ∀ (nq : Nat) (w4 : ab_W) (st3 : Int32) (q3 : Int32), ty_w sp_ G w4 → (F9 G F) w4 → ty_same G fz w w4 → (0 ≤ q3.toInt) → (q3.toInt ≤ 10) → (11 - q3.toInt).toNat < nq → ab_wp ro (ab_Ev ro ab_codes (d + 75)) 9 false (some .int) ab_k_X9_moved (fun o_1 => ∃ v w1, o_1 = (v, w1, 0, 0) ∧ ty_w sp_ G w1 ∧ (F9 G F) w1 ∧ ty_same G fz w w1 ∧ ck_res G (some (0, (-2147483648), 2147483647)) v ∧ ck_wit 0 0 [.ref o, .int p] v) (73, [some (.ref o), some (.int p), some (.int st3), some (.int q3)], [], w4, 0, 0) := by
      intro nq
      induction nq with
      | zero => intro w4 st3 q3 hw7 hf8 hs9 i5 i6 hm; exact absurd hm (Nat.not_lt_zero _)
      | succ nq ih73 =>
        intro w4 st3 q3 hw7 hf8 hs9 i5 i6 hm73
        have ct107 : ∀ (w10 : ab_W) (st4 : Int32) (q4 : Int32) (b4 : Int32) (a4 : Int32), ty_w sp_ G w10 → (F9 G F) w10 → ty_same G fz w w10 → (q4.toInt = q3.toInt) → (q3.toInt < 10) → ab_wp ro (ab_Ev ro ab_codes (d + 75)) 9 false (some .int) ab_k_X9_moved (fun o_1 => ∃ v w1, o_1 = (v, w1, 0, 0) ∧ ty_w sp_ G w1 ∧ (F9 G F) w1 ∧ ty_same G fz w w1 ∧ ck_res G (some (0, (-2147483648), 2147483647)) v ∧ ck_wit 0 0 [.ref o, .int p] v) (107, [some (.ref o), some (.int p), some (.int st4), some (.int q4)], [.int b4, .int a4], w10, 0, 0) := by
          intro w10 st4 q4 b4 a4 hw13 hf14 hs15 i11 i12
          refine hx_any (l := 108) rfl rfl (fun z16 => ?_)
          refine ax_go 1 (y := (109, [some (.ref o), some (.int p), some (.int z16), some (.int q4)], [], w10, 0, 0)) rfl trivial ?_
          refine hx_iinc (x := q4) (n := 1) (l := 112) rfl rfl rfl (Nat.le_of_ble_eq_true rfl) (by omega) (by omega) (by decide) (fun z17 h18 => ?_)
          change ab_wp ro (ab_Ev ro ab_codes (d + 75)) 9 false (some .int) ab_k_X9_moved (fun o_1 => ∃ v w1, o_1 = (v, w1, 0, 0) ∧ ty_w sp_ G w1 ∧ (F9 G F) w1 ∧ ty_same G fz w w1 ∧ ck_res G (some (0, (-2147483648), 2147483647)) v ∧ ck_wit 0 0 [.ref o, .int p] v) (112, [some (.ref o), some (.int p), some (.int z16), some (.int z17)], [], w10, 0, 0)
          refine ax_go 1 (y := (73, [some (.ref o), some (.int p), some (.int z16), some (.int z17)], [], w10, 0, 0)) rfl trivial ?_
          exact ih73 w10 z16 z17 hw13 hf14 hs15 (by omega) (by omega) (by omega)
        refine ax_go 2 (y := (75, [some (.ref o), some (.int p), some (.int st3), some (.int q3)], [.ref o, .int q3], w4, 0, 0)) rfl trivial ?_
        obtain ⟨fs19, g20, -, q21⟩ := hx_obj hw7 hG0 (s := 30) rfl (by decide)
        obtain ⟨p22, e23, hG24⟩ := hx_fr (k := 2) (s := 32) q21 rfl
        refine hx_gf (l := 78) rfl rfl rfl g20 e23 ?_
        refine hx_k (l := 80) (m := 110) rfl rfl (by decide) (fun z25 h26 => ?_)
        obtain ⟨f27, g28, r29⟩ := hx_row hw7 hG24 (s := 32) (kd := 0) (n := 5721) rfl (by decide)
        refine hx_il (l := 81) rfl rfl g28 (by omega) (by omega) (fun z30 h31 => ?_)
        have b32 := ((hf8.1.1 _ _ hG24 g28).1 z25.toInt.toNat (by omega)).2.2.2.2.1 (by omega)
        rw [← h31] at b32
        refine hx_ic_ge (l := 84) rfl rfl (fun h33 => ?_) (fun h33 => ?_)
        · -- 115
          refine ax_go 1 (y := (116, [some (.ref o), some (.int p), some (.int st3), some (.int q3)], [.int st3], w4, 0, 0)) rfl trivial ?_
          exact ax_ret rfl rfl trivial ⟨some (.int st3), _, rfl, hw7, hf8, hs9, (ck_top_ok (G := G) st3), trivial⟩
        · -- 84
          refine ax_go 2 (y := (86, [some (.ref o), some (.int p), some (.int st3), some (.int q3)], [.ref o, .int st3], w4, 0, 0)) rfl trivial ?_
          obtain ⟨p34, e35, hG36⟩ := hx_fr (k := 40) (s := 51) q21 rfl
          refine hx_gf (l := 89) rfl rfl rfl g20 e35 ?_
          refine ax_go 1 (y := (90, [some (.ref o), some (.int p), some (.int st3), some (.int q3)], [.int q3, .ref p34, .int st3], w4, 0, 0)) rfl trivial ?_
          obtain ⟨f37, g38, r39⟩ := hx_row hw7 hG36 (s := 51) (kd := 0) (n := 10) rfl (by decide)
          refine hx_il (l := 91) rfl rfl g38 (by omega) (by omega) (fun z40 h41 => ?_)
          refine ax_go 1 (y := (92, [some (.ref o), some (.int p), some (.int st3), some (.int q3)], [.ref o, .int z40, .int st3], w4, 0, 0)) rfl trivial ?_
          obtain ⟨p42, e43, hG44⟩ := hx_fr (k := 35) (s := 46) q21 rfl
          refine hx_gf (l := 95) rfl rfl rfl g20 e43 ?_
          refine ax_go 1 (y := (96, [some (.ref o), some (.int p), some (.int st3), some (.int q3)], [.int q3, .ref p42, .int z40, .int st3], w4, 0, 0)) rfl trivial ?_
          obtain ⟨f45, g46, r47⟩ := hx_row hw7 hG44 (s := 46) (kd := 0) (n := 10) rfl (by decide)
          refine hx_il (l := 97) rfl rfl g46 (by omega) (by omega) (fun z48 h49 => ?_)
          have b50 := r47 (0, 10, 1, 0, 0, 98) (by decide) q3.toInt.toNat (show (0 : Nat) ≤ _ by omega) (show _ < (10 : Nat) by omega) (show _ % (1 : Nat) = 0 by omega)
          rw [← h49] at b50
          replace b50 : (0 : Int) ≤ z48.toInt ∧ z48.toInt ≤ 98 := b50
          refine hx_ic_ne (l := 100) rfl rfl (fun h51 => ?_) (fun h51 => ?_)
          · -- 104
            refine hx_k (l := 105) (m := 1) rfl rfl (by decide) (fun z52 h53 => ?_)
            refine ax_go 1 (y := (106, [some (.ref o), some (.int p), some (.int st3), some (.int q3)], [.int q3, .int z52, .int st3], w4, 0, 0)) rfl trivial ?_
            refine hx_any (l := 107) rfl rfl (fun z54 => ?_)
            exact ct107 w4 st3 q3 z54 st3 hw7 hf8 hs9 (by omega) (by omega)
          · -- 100
            refine hx_k (l := 101) (m := 0) rfl rfl (by decide) (fun z55 h56 => ?_)
            refine ax_go 1 (y := (107, [some (.ref o), some (.int p), some (.int st3), some (.int q3)], [.int z55, .int st3], w4, 0, 0)) rfl trivial ?_
            exact ct107 w4 st3 q3 z55 st3 hw7 hf8 hs9 (by omega) (by omega)
    have ct33 : ∀ (nq : Nat) (w57 : ab_W) (q : Int32) (fk : Nat → Int32), ty_w sp_ G w57 → (F9 G F) w57 → ty_same G fz w w57 → (hx_has w57 o 9 2 (.ref pk)) → (w57[pk]? = some (.inl (0, 5721, .inl fk))) → (0 ≤ q.toInt) → (q.toInt ≤ 10) → (0 ≤ p.toInt) → (p.toInt ≤ 9) → (∀ j : Nat, j < 71 → fk j = f0 j) → (0 ≤ (f0 p.toInt.toNat).toInt ∧ (f0 p.toInt.toNat).toInt ≤ 998) → (11 - q.toInt).toNat < nq → ab_wp ro (ab_Ev ro ab_codes (d + 75)) 9 false (some .int) ab_k_X9_moved (fun o_1 => ∃ v w1, o_1 = (v, w1, 0, 0) ∧ ty_w sp_ G w1 ∧ (F9 G F) w1 ∧ ty_same G fz w w1 ∧ ck_res G (some (0, (-2147483648), 2147483647)) v ∧ ck_wit 0 0 [.ref o, .int p] v) (33, [some (.ref o), some (.int p), some (.int q), none], [], w57, 0, 0) := by
      intro nq
      induction nq with
      | zero => intro w57 q fk hw64 hf65 hs66 hh58 g59 i60 i61 i62 i63 hsame hcp0 hm; exact absurd hm (Nat.not_lt_zero _)
      | succ nq ih33 =>
        intro w57 q fk hw64 hf65 hs66 hh58 g59 i60 i61 i62 i63 hsame hcp0 hm33
        obtain ⟨fs67, g68, e69⟩ := hh58
        refine ax_go 2 (y := (35, [some (.ref o), some (.int p), some (.int q), none], [.ref o, .int q], w57, 0, 0)) rfl trivial ?_
        refine hx_gf (l := 38) rfl rfl rfl g68 e69 ?_
        refine hx_k (l := 40) (m := 110) rfl rfl (by decide) (fun z70 h71 => ?_)
        have r72 := hx_rq hw64 g59 hG_pk (s := 32) rfl
        refine hx_il (l := 41) rfl rfl g59 (by omega) (by omega) (fun z73 h74 => ?_)
        have b75 := ((hf65.1.1 _ _ hG_pk g59).1 z70.toInt.toNat (by omega)).2.2.2.2.1 (by omega)
        rw [← h74] at b75
        refine hx_ic_ge (l := 44) rfl rfl (fun h76 => ?_) (fun h76 => ?_)
        · -- 62
          have hcp1 := hsame p.toInt.toNat (by omega)
          have hcp2 := congrArg Int32.toInt hcp1
          refine ax_go 2 (y := (64, [some (.ref o), some (.int p), some (.int q), none], [.int p, .ref o], w57, 0, 0)) rfl trivial ?_
          refine hx_k (l := 65) (m := 1) rfl rfl (by decide) (fun z77 h78 => ?_)
          refine hx_pi (l := 68) (as := [.ref o, .int p, .int z77]) rfl rfl (hx_iv (j := 208) (n := 2) (o := o) (r := []) rfl rfl g68 rfl) (hp_X9_onceWith (fz := fz) hF (fun q hq => (by decide +kernel : ∀ q ∈ fb_X9_moved, q ∈ fb_hp_X9_onceWith) q (hfz q hq)) (d + 1)) hw64 hf65 ⟨(hx_tr (G := G) (s := 30) (b := 0) hG0 (by decide)), (hx_ti (G := G) (lo := (-1)) (hi := 9) (by omega) (by omega)), (ck_top_ok (G := G) z77), trivial⟩ (fun y0 y1 y2 pk1 f1 h1 h2 h3 => by cases h1; obtain ⟨fs1, g1, e1⟩ := h2; obtain rfl := hx_inj g68 g1; cases e69.symm.trans e1; obtain rfl := hx_injr g59 h3; exact (by omega)) (fun w79 z84 hw80 hf81 m82 a85 b86 u87 => ?_)
          have hs83 := ty_same_tr hs66 m82
          obtain ⟨⟨fs88, gA89, eA90⟩, fn91, gk92, hsm93⟩ := u87 _ _ _ _ _ rfl ⟨_, g68, e69⟩ g59
          refine ax_go 1 (y := (69, [some (.ref o), some (.int p), some (.int q), none], [], w79, 0, 0)) rfl trivial ?_
          refine hx_k (l := 70) (m := 0) rfl rfl (by decide) (fun z94 h95 => ?_)
          refine ax_go 1 (y := (71, [some (.ref o), some (.int p), some (.int z94), none], [], w79, 0, 0)) rfl trivial ?_
          refine hx_k (l := 72) (m := 0) rfl rfl (by decide) (fun z96 h97 => ?_)
          refine ax_go 1 (y := (73, [some (.ref o), some (.int p), some (.int z94), some (.int z96)], [], w79, 0, 0)) rfl trivial ?_
          exact ct73 _ w79 z94 z96 hw80 hf81 hs83 (by omega) (by omega) (Nat.lt_succ_self _)
        · -- 44
          refine ax_go 1 (y := (45, [some (.ref o), some (.int p), some (.int q), none], [.ref o], w57, 0, 0)) rfl trivial ?_
          have q98 := hx_oq hw64 g68 hG0 (s := 30) rfl
          obtain ⟨p99, e100, hG101⟩ := hx_fr (k := 40) (s := 51) q98 rfl
          refine hx_gf (l := 48) rfl rfl rfl g68 e100 ?_
          refine ax_go 2 (y := (50, [some (.ref o), some (.int p), some (.int q), none], [.ref o, .int q, .ref p99], w57, 0, 0)) rfl trivial ?_
          obtain ⟨p102, e103, hG104⟩ := hx_fr (k := 35) (s := 46) q98 rfl
          refine hx_gf (l := 53) rfl rfl rfl g68 e103 ?_
          refine ax_go 1 (y := (54, [some (.ref o), some (.int p), some (.int q), none], [.int q, .ref p102, .int q, .ref p99], w57, 0, 0)) rfl trivial ?_
          obtain ⟨f105, g106, r107⟩ := hx_row hw64 hG104 (s := 46) (kd := 0) (n := 10) rfl (by decide)
          refine hx_il (l := 55) rfl rfl g106 (by omega) (by omega) (fun z108 h109 => ?_)
          have b110 := r107 (0, 10, 1, 0, 0, 98) (by decide) q.toInt.toNat (show (0 : Nat) ≤ _ by omega) (show _ < (10 : Nat) by omega) (show _ % (1 : Nat) = 0 by omega)
          rw [← h109] at b110
          replace b110 : (0 : Int) ≤ z108.toInt ∧ z108.toInt ≤ 98 := b110
          obtain ⟨f111, g112, r113⟩ := hx_row hw64 hG101 (s := 51) (kd := 0) (n := 10) rfl (by decide)
          refine hx_is (s := 51) (l := 56) rfl rfl rfl hw64 hG101 g112 (by omega) (by omega) hx_sg0 (fun w114 f115 g116 e117 o118 n119 hw120 n121 => ?_)
          have hs122 := ty_same_tr hs66 (n121 fz (hx_ok hfz (by decide)))
          have hf123 := hFF _ _ (n121 pr_ (by decide)) hf65
          refine hx_iinc (x := q) (n := 1) (l := 59) rfl rfl rfl (Nat.le_of_ble_eq_true rfl) (by omega) (by omega) (by decide) (fun z124 h125 => ?_)
          change ab_wp ro (ab_Ev ro ab_codes (d + 75)) 9 false (some .int) ab_k_X9_moved (fun o_1 => ∃ v w1, o_1 = (v, w1, 0, 0) ∧ ty_w sp_ G w1 ∧ (F9 G F) w1 ∧ ty_same G fz w w1 ∧ ck_res G (some (0, (-2147483648), 2147483647)) v ∧ ck_wit 0 0 [.ref o, .int p] v) (59, [some (.ref o), some (.int p), some (.int z124), none], [], w114, 0, 0)
          refine ax_go 1 (y := (33, [some (.ref o), some (.int p), some (.int z124), none], [], w114, 0, 0)) rfl trivial ?_
          exact ih33 w114 z124 fk hw120 hf123 hs122 ⟨_, ((n119 _ (hx_ne hG0 hG101 (by decide))).trans g68), e69⟩ ((n119 _ (hx_ne hG_pk hG101 (by decide))).trans g59) (by omega) (by omega) (by omega) (by omega) hsame hcp0 (by omega)
    change ab_wp ro (ab_Ev ro ab_codes (d + 75)) 9 false (some .int) ab_k_X9_moved (fun o_1 => ∃ v w1, o_1 = (v, w1, 0, 0) ∧ ty_w sp_ G w1 ∧ (F9 G F) w1 ∧ ty_same G fz w w1 ∧ ck_res G (some (0, (-2147483648), 2147483647)) v ∧ ck_wit 0 0 [.ref o, .int p] v) (0, [some (.ref o), some (.int p), none, none], [], w, 0, 0)
    refine ax_go 2 (y := (2, [some (.ref o), some (.int p), none, none], [.int p, .ref o], w, 0, 0)) rfl trivial ?_
    refine hx_pi (l := 5) (as := [.ref o, .int p]) rfl rfl (hx_iv (j := 133) (n := 1) (o := o) (r := []) rfl rfl g2 rfl) (hp_X9_isParish (fz := fz) hF (fun q hq => (by decide +kernel : ∀ q ∈ fb_X9_moved, q ∈ fb_hp_X9_isParish) q (hfz q hq)) (d + 73)) hw hf ⟨(hx_tr (G := G) (s := 30) (b := 0) hG0 (by decide)), (ck_top_ok (G := G) p), trivial⟩ trivial (fun w126 z131 hw127 hf128 m129 a132 b133 u134 => ?_)
    rw [u134.1]
    have u135 := u134.2 _ _ _ _ _ rfl ⟨_, g2, e_pk⟩ g_f0 rfl
    clear u134
    have b136 := ((hf.1.1 _ _ hG_pk g_f0).1 110 (by decide)).2.2.2.2.1 rfl
    refine hx_if_eq (l := 8) rfl rfl (fun h137 => ?_) (fun h137 => ?_)
    · -- 22
      clear u135
      refine hx_k (l := 23) (m := (-1)) rfl rfl (by decide) (fun z138 h139 => ?_)
      exact ax_ret rfl rfl trivial ⟨some (.int z138), _, rfl, hw, hf, (ty_same_rf w), (ck_top_ok (G := G) z138), trivial⟩
    · -- 8
      replace u135 := u135.1 (by omega)
      refine ax_go 1 (y := (9, [some (.ref o), some (.int p), none, none], [.ref o], w, 0, 0)) rfl trivial ?_
      refine hx_gf (l := 12) rfl rfl rfl g2 e_pk ?_
      refine hx_k (l := 13) (m := 0) rfl rfl (by decide) (fun z140 h141 => ?_)
      refine ax_go 1 (y := (14, [some (.ref o), some (.int p), none, none], [.int p, .int z140, .ref pk], w, 0, 0)) rfl trivial ?_
      refine hx_add (l := 15) rfl rfl (fun z142 h143 => ?_)
      replace h143 := h143 (by omega) (by omega)
      refine hx_il (l := 16) rfl rfl g_f0 (by omega) (by omega) (fun z144 h145 => ?_)
      have b146 := ((hf.1.1 _ _ hG_pk g_f0).1 z142.toInt.toNat (by omega)).1.1 (by omega)
      rw [← h145] at b146
      rw [show z142.toInt.toNat = p.toInt.toNat by omega] at h145
      replace h145 := congrArg Int32.toInt h145
      refine hx_k (l := 19) (m := 999) rfl rfl (by decide) (fun z147 h148 => ?_)
      refine hx_ic_ne (l := 22) rfl rfl (fun h149 => ?_) (fun h149 => ?_)
      · -- 24
        refine ax_go 1 (y := (25, [some (.ref o), some (.int p), none, none], [.ref o], w, 0, 0)) rfl trivial ?_
        refine hx_k (l := 26) (m := (-1)) rfl rfl (by decide) (fun z150 h151 => ?_)
        refine hx_k (l := 27) (m := 0) rfl rfl (by decide) (fun z152 h153 => ?_)
        refine hx_pi (l := 30) (as := [.ref o, .int z150, .int z152]) rfl rfl (hx_iv (j := 208) (n := 2) (o := o) (r := []) rfl rfl g2 rfl) (hp_X9_onceWith (fz := fz) hF (fun q hq => (by decide +kernel : ∀ q ∈ fb_X9_moved, q ∈ fb_hp_X9_onceWith) q (hfz q hq)) (d + 1)) hw hf ⟨(hx_tr (G := G) (s := 30) (b := 0) hG0 (by decide)), (hx_ti (G := G) (lo := (-1)) (hi := 9) (by omega) (by omega)), (ck_top_ok (G := G) z152), trivial⟩ (fun y0 y1 y2 pk1 f1 h1 h2 h3 => by cases h1; obtain ⟨fs1, g1, e1⟩ := h2; obtain rfl := hx_inj g2 g1; cases e_pk.symm.trans e1; obtain rfl := hx_injr g_f0 h3; exact (by omega)) (fun w154 z159 hw155 hf156 m157 a160 b161 u162 => ?_)
        have hs158 := ty_same_tr (ty_same_rf w) m157
        obtain ⟨⟨fs163, gA164, eA165⟩, fn166, gk167, hsm168⟩ := u162 _ _ _ _ _ rfl ⟨_, g2, e_pk⟩ g_f0
        refine ax_go 1 (y := (31, [some (.ref o), some (.int p), none, none], [], w154, 0, 0)) rfl trivial ?_
        refine hx_k (l := 32) (m := 0) rfl rfl (by decide) (fun z169 h170 => ?_)
        refine ax_go 1 (y := (33, [some (.ref o), some (.int p), some (.int z169), none], [], w154, 0, 0)) rfl trivial ?_
        exact ct33 _ w154 z169 fn166 hw155 hf156 hs158 ⟨_, gA164, eA165⟩ gk167 (by omega) (by omega) (by omega) (by omega) (fun j hj => hsm168 j hj) ⟨by omega, by omega⟩ (Nat.lt_succ_self _)
      · -- 22
        refine hx_k (l := 23) (m := (-1)) rfl rfl (by decide) (fun z171 h172 => ?_)
        exact ax_ret rfl rfl trivial ⟨some (.int z171), _, rfl, hw, hf, (ty_same_rf w), (ck_top_ok (G := G) z171), trivial⟩
def fb_hp_X9_draws : List (Nat × Nat) := [(8, 3), (8, 5), (19, 999), (32, 999), (33, 999), (34, 999), (35, 999), (44, 999), (45, 999), (1, 0), (18, 999), (2, 11), (2, 14), (1, 15), (54, 11), (4, 2), (7, 9), (30, 13), (30, 34), (30, 2), (30, 22), (30, 23), (30, 24), (30, 25), (46, 999), (47, 999), (30, 35), (30, 36), (7, 0), (24, 999), (37, 999), (30, 4), (30, 5), (30, 6), (30, 8), (30, 9), (30, 10), (30, 11), (30, 14), (30, 15), (30, 16), (30, 17), (30, 18), (30, 19), (30, 20), (30, 21), (39, 999), (40, 999), (41, 999), (30, 30), (30, 42), (30, 43), (30, 44), (1, 1), (1, 3), (1, 10), (1, 13), (8, 0), (30, 49), (2, 15), (8, 1)]
set_option maxHeartbeats 8000000 in
theorem hp_X9_draws {ro : ab_R} {G : Nat → Nat} {fz : List (Nat × Nat)} {F : ab_W → Prop} (hF : ∀ w w', smt G w w' → F w → F w') (hfz : ∀ q ∈ fz, q ∈ fb_hp_X9_draws) (d : Nat) : hx_ct ro sp_ G (F9 G F) fz (ab_Ev ro ab_codes (d + 1)) 234 [(2, 30, 0), (0, 1, 10)] (some (0, 0, 9)) (fun _ _ => True) (fun as _ v _ => ∀ (o : Nat) (k z : Int32), as = [.ref o, .int k] → v = some (.int z) → z.toInt < k.toInt) := by
  have hFF := F9_same hF
  refine hx_hand (d := d + 0) (by decide) (fun as w hw hf has hP => ?_)
  match as, has with
  | [v0, v1], ⟨h0, h1, _⟩ =>
    obtain ⟨o, rfl, _, hG0⟩ := ty_refn h0 rfl rfl
    replace hG0 : G o = 30 := hG0
    obtain ⟨k, rfl, hl1, hh1⟩ := ty_int h1 rfl
    replace hl1 : (1 : Int) ≤ k.toInt := hl1
    replace hh1 : k.toInt ≤ 10 := hh1
    refine ⟨rfl, ?_⟩
    change ab_wp ro (ab_Ev ro ab_codes d) 9 false (some .int) ab_k_X9_draws (fun o_1 => ∃ v w1, o_1 = (v, w1, 0, 0) ∧ ty_w sp_ G w1 ∧ (F9 G F) w1 ∧ ty_same G fz w w1 ∧ ck_res G (some (0, 0, 9)) v ∧ (fun as _ v _ => ∀ (o : Nat) (k z : Int32), as = [.ref o, .int k] → v = some (.int z) → z.toInt < k.toInt) ([.ref o, .int k] : List Value) w v w1) (0, [some (.ref o), some (.int k)], [], w, 0, 0)
    refine ax_go 1 (y := (1, [some (.ref o), some (.int k)], [.ref o], w, 0, 0)) rfl trivial ?_
    refine hx_lk (l := 4) (m := 1103) rfl rfl (by decide) (fun z1 h2 => ?_)
    refine ax_go 1 (y := (5, [some (.ref o), some (.int k)], [.ref o, .long z1, .ref o], w, 0, 0)) rfl trivial ?_
    obtain ⟨fs3, g4, -, q5⟩ := hx_obj hw hG0 (s := 30) rfl (by decide)
    obtain ⟨x6, e7, a8, b9⟩ := hx_fi (k := 51) (lo := 0) (hi := 1000002) q5 rfl
    refine hx_gf (l := 8) rfl rfl rfl g4 e7 ?_
    refine hx_i2l (l := 9) rfl rfl (fun z10 h11 => ?_)
    refine hx_lmul (m := 1103 * z10.toInt) (l := 10) rfl rfl (by rw [show z1.toInt = 1103 by omega]) (by omega) (by omega) (fun z12 h13 => ?_)
    refine hx_lk (l := 13) (m := 12345) rfl rfl (by decide) (fun z14 h15 => ?_)
    refine hx_ladd (l := 14) rfl rfl (by omega) (by omega) (fun z16 h17 => ?_)
    refine hx_lk (l := 17) (m := 1000003) rfl rfl (by decide) (fun z18 h19 => ?_)
    refine hx_lrem (l := 18) rfl rfl (by omega) (by omega) (fun z20 a21 b22 c23 => ?_)
    clear c23
    refine hx_l2i (l := 19) rfl rfl (by omega) (by omega) (fun z24 h25 => ?_)
    refine hx_pf (q := (0, 0, 0, 0, 0, 1000002)) (s := 30) (l := 22) (v := .int z24) rfl rfl rfl (by decide) rfl rfl rfl hw hG0 g4 trivial (hx_ti (G := G) (lo := 0) (hi := 1000002) (by omega) (by omega)) (fun w26 fs27 g28 e29 o30 n31 hw32 n33 => ?_)
    have hs34 := ty_same_tr (ty_same_rf w) (n33 fz (hx_ok hfz (by decide)))
    have hf35 := hFF _ _ (n33 pr_ (by decide)) hf
    refine ax_go 1 (y := (23, [some (.ref o), some (.int k)], [.ref o], w26, 0, 0)) rfl trivial ?_
    refine hx_gf (l := 26) rfl rfl rfl g28 e29 ?_
    refine ax_go 1 (y := (27, [some (.ref o), some (.int k)], [.int k, .int z24], w26, 0, 0)) rfl trivial ?_
    refine hx_rem (l := 28) rfl rfl (by omega) (by omega) (fun z36 a37 b38 c39 d40 => ?_)
    exact ax_ret rfl rfl trivial ⟨some (.int z36), _, rfl, hw32, hf35, hs34, (hx_ti (G := G) (lo := 0) (hi := 9) (by omega) (by omega)), (fun o1 k1 z1 h1 h2 => by cases h1; cases h2; omega)⟩
def fb_X9_happens : List (Nat × Nat) := [(8, 3), (8, 5), (19, 999), (33, 999), (34, 999), (35, 999), (44, 999), (45, 999), (1, 0), (18, 999), (2, 11), (2, 14), (1, 15), (54, 11), (4, 2), (7, 9), (30, 13), (30, 34), (30, 2), (46, 999), (47, 999), (30, 35), (30, 36), (7, 0), (24, 999), (37, 999), (30, 4), (30, 5), (30, 6), (30, 8), (30, 9), (30, 10), (30, 11), (30, 14), (30, 15), (30, 16), (30, 17), (30, 18), (30, 19), (30, 20), (30, 21), (39, 999), (40, 999), (41, 999), (30, 30), (30, 42), (30, 43), (30, 44), (1, 1), (1, 3), (1, 10), (1, 13), (8, 0), (30, 49), (2, 15), (8, 1)]
set_option maxHeartbeats 8000000 in
theorem h_X9_happens {ro : ab_R} {G : Nat → Nat} {fz : List (Nat × Nat)} {F : ab_W → Prop} (hF : ∀ w w', smt G w w' → F w → F w') (hfz : ∀ q ∈ fz, q ∈ fb_X9_happens) (d : Nat) : ck_ct ro sp_ G (F9 G F) fz (ab_Ev ro ab_codes (d + 95)) 235 [(2, 30, 0), (0, 0, 9), (0, (-2147483648), 2147483647)] none 0 0 := by
  have hFF := F9_same hF
  refine ck_hand (d := d + 94) (by decide) (fun as w hw hf has => ?_)
  match as, has with
  | [v0, v1, v2], ⟨h0, h1, h2, _⟩ =>
    obtain ⟨o, rfl, _, hG0⟩ := ty_refn h0 rfl rfl
    replace hG0 : G o = 30 := hG0
    obtain ⟨p, rfl, hl1, hh1⟩ := ty_int h1 rfl
    replace hl1 : (0 : Int) ≤ p.toInt := hl1
    replace hh1 : p.toInt ≤ 9 := hh1
    obtain ⟨wh, rfl, hl2, hh2⟩ := ty_int h2 rfl
    replace hl2 : ((-2147483648) : Int) ≤ wh.toInt := hl2
    replace hh2 : wh.toInt ≤ 2147483647 := hh2
    refine ⟨rfl, ?_⟩
    have ct55 : ∀ (w1 : ab_W) , ty_w sp_ G w1 → (F9 G F) w1 → ty_same G fz w w1 → ab_wp ro (ab_Ev ro ab_codes (d + 94)) 9 false none ab_k_X9_happens (fun o_1 => ∃ v w1, o_1 = (v, w1, 0, 0) ∧ ty_w sp_ G w1 ∧ (F9 G F) w1 ∧ ty_same G fz w w1 ∧ ck_res G none v ∧ ck_wit 0 0 [.ref o, .int p, .int wh] v) (55, [some (.ref o), some (.int p), some (.int wh)], [], w1, 0, 0) := by
      intro w1  hw2 hf3 hs4
      refine ax_go 1 (y := (56, [some (.ref o), some (.int p), some (.int wh)], [.int wh], w1, 0, 0)) rfl trivial ?_
      refine hx_k (l := 57) (m := 2) rfl rfl (by decide) (fun z5 h6 => ?_)
      refine hx_ic_ne (l := 60) rfl rfl (fun h7 => ?_) (fun h7 => ?_)
      · -- 74
        exact ax_ret rfl rfl trivial ⟨none, _, rfl, hw2, hf3, hs4, trivial, trivial⟩
      · -- 60
        refine ax_go 2 (y := (62, [some (.ref o), some (.int p), some (.int wh)], [.int p, .ref o], w1, 0, 0)) rfl trivial ?_
        obtain ⟨fs8, g9, -, q10⟩ := hx_obj hw2 hG0 (s := 30) rfl (by decide)
        refine hx_ci (l := 65) (as := [.ref o, .int p]) rfl rfl (hx_iv (j := 226) (n := 1) (o := o) (r := []) rfl rfl g9 rfl) (cc_X9_canReckon_0 (fz := fz) hFF (fun d => h_X9_walkersOf (fz := fz) hF (fun q hq => (by decide +kernel : ∀ q ∈ fb_X9_happens, q ∈ fb_hp_X9_walkersOf) q (hfz q hq)) (d + 27)) (fun d => h_X9_isBarred (fz := fz) hF (fun q hq => (by decide +kernel : ∀ q ∈ fb_X9_happens, q ∈ fb_X9_isBarred) q (hfz q hq)) (d + 27)) (fun q hq => (by decide +kernel : ∀ q ∈ fb_X9_happens, q ∈ fr_X9_canReckon_0) q (hfz q hq)) (d + 1)) hw2 hf3 ⟨(hx_tr (G := G) (s := 30) (b := 0) hG0 (by decide)), (hx_ti (G := G) (lo := 0) (hi := 9) (by omega) (by omega)), trivial⟩ (fun w11 z16 hw12 hf13 m14 a17 b18 u19 => ?_)
        have hs15 := ty_same_tr hs4 m14
        refine hx_if_eq (l := 68) rfl rfl (fun h20 => ?_) (fun h20 => ?_)
        · -- 74
          exact ax_ret rfl rfl trivial ⟨none, _, rfl, hw12, hf13, hs15, trivial, trivial⟩
        · -- 68
          refine ax_go 2 (y := (70, [some (.ref o), some (.int p), some (.int wh)], [.int p, .ref o], w11, 0, 0)) rfl trivial ?_
          obtain ⟨fs21, g22, -, q23⟩ := hx_obj hw12 hG0 (s := 30) rfl (by decide)
          refine hx_ci (l := 73) (as := [.ref o, .int p]) rfl rfl (hx_iv (j := 192) (n := 1) (o := o) (r := []) rfl rfl g22 rfl) (h_X9_reckons (fz := fz) hF (fun q hq => (by decide +kernel : ∀ q ∈ fb_X9_happens, q ∈ fb_X9_reckons) q (hfz q hq)) (d + 24)) hw12 hf13 ⟨(hx_tr (G := G) (s := 30) (b := 0) hG0 (by decide)), (hx_ti (G := G) (lo := 0) (hi := 9) (by omega) (by omega)), trivial⟩ (fun w24 z29 hw25 hf26 m27 a30 b31 u32 => ?_)
          have hs28 := ty_same_tr hs15 m27
          refine ax_go 1 (y := (74, [some (.ref o), some (.int p), some (.int wh)], [], w24, 0, 0)) rfl trivial ?_
          exact ax_ret rfl rfl trivial ⟨none, _, rfl, hw25, hf26, hs28, trivial, trivial⟩
    have ct28 : ∀ (w33 : ab_W) , ty_w sp_ G w33 → (F9 G F) w33 → ty_same G fz w w33 → ab_wp ro (ab_Ev ro ab_codes (d + 94)) 9 false none ab_k_X9_happens (fun o_1 => ∃ v w1, o_1 = (v, w1, 0, 0) ∧ ty_w sp_ G w1 ∧ (F9 G F) w1 ∧ ty_same G fz w w1 ∧ ck_res G none v ∧ ck_wit 0 0 [.ref o, .int p, .int wh] v) (28, [some (.ref o), some (.int p), some (.int wh)], [], w33, 0, 0) := by
      intro w33  hw34 hf35 hs36
      refine ax_go 1 (y := (29, [some (.ref o), some (.int p), some (.int wh)], [.int wh], w33, 0, 0)) rfl trivial ?_
      refine hx_k (l := 30) (m := 1) rfl rfl (by decide) (fun z37 h38 => ?_)
      refine hx_ic_ne (l := 33) rfl rfl (fun h39 => ?_) (fun h39 => ?_)
      · -- 55
        exact ct55 w33  hw34 hf35 hs36 
      · -- 33
        refine ax_go 1 (y := (34, [some (.ref o), some (.int p), some (.int wh)], [.ref o], w33, 0, 0)) rfl trivial ?_
        obtain ⟨fs40, g41, -, q42⟩ := hx_obj hw34 hG0 (s := 30) rfl (by decide)
        obtain ⟨p43, e44, hG45⟩ := hx_fr (k := 2) (s := 32) q42 rfl
        refine hx_gf (l := 37) rfl rfl rfl g41 e44 ?_
        refine hx_k (l := 38) (m := 0) rfl rfl (by decide) (fun z46 h47 => ?_)
        refine ax_go 1 (y := (39, [some (.ref o), some (.int p), some (.int wh)], [.int p, .int z46, .ref p43], w33, 0, 0)) rfl trivial ?_
        refine hx_add (l := 40) rfl rfl (fun z48 h49 => ?_)
        replace h49 := h49 (by omega) (by omega)
        refine hx_k (l := 41) (m := 0) rfl rfl (by decide) (fun z50 h51 => ?_)
        refine ax_go 1 (y := (42, [some (.ref o), some (.int p), some (.int wh)], [.ref o, .int z50, .int z48, .ref p43], w33, 0, 0)) rfl trivial ?_
        refine hx_gf (l := 45) rfl rfl rfl g41 e44 ?_
        refine hx_k (l := 46) (m := 0) rfl rfl (by decide) (fun z52 h53 => ?_)
        refine ax_go 1 (y := (47, [some (.ref o), some (.int p), some (.int wh)], [.int p, .int z52, .ref p43, .int z50, .int z48, .ref p43], w33, 0, 0)) rfl trivial ?_
        refine hx_add (l := 48) rfl rfl (fun z54 h55 => ?_)
        replace h55 := h55 (by omega) (by omega)
        obtain ⟨f56, g57, r58⟩ := hx_row hw34 hG45 (s := 32) (kd := 0) (n := 5721) rfl (by decide)
        refine hx_il (l := 49) rfl rfl g57 (by omega) (by omega) (fun z59 h60 => ?_)
        have b61 := ((hf35.1.1 _ _ hG45 g57).1 z54.toInt.toNat (by omega)).1.1 (by omega)
        rw [← h60] at b61
        refine hx_k (l := 50) (m := 1) rfl rfl (by decide) (fun z62 h63 => ?_)
        refine hx_sub (l := 51) rfl rfl (fun z64 h65 => ?_)
        replace h65 := h65 (by omega) (by omega)
        refine hx_pi (l := 54) (as := [.int z50, .int z64]) rfl rfl rfl (hp_X9_greater (fz := fz) hFF (fun q hq => (by decide +kernel : ∀ q ∈ fb_X9_happens, q ∈ fb_hp_X9_greater) q (hfz q hq)) (d + 93)) hw34 hf35 ⟨(ck_top_ok (G := G) z50), (ck_top_ok (G := G) z64), trivial⟩ trivial (fun w66 z71 hw67 hf68 m69 a72 b73 u74 => ?_)
        rw [u74.1]
        have u75 := u74.2 _ _ _ rfl rfl
        refine hx_is (s := 32) (l := 55) rfl rfl rfl hw34 hG45 g57 (by omega) (by omega) (hx_sg1 (fun _ _ _ => ⟨by omega, by omega⟩) (hx_sg1 (fun _ _ _ => ⟨by omega, by omega⟩) (hx_sg1 (fun _ _ _ => ⟨by omega, by omega⟩) (hx_sg1 (fun _ _ _ => ⟨by omega, by omega⟩) (hx_sg1 (fun _ _ _ => ⟨by omega, by omega⟩) (hx_sg1 (fun _ _ _ => ⟨by omega, by omega⟩) (hx_sg1 (fun _ _ _ => ⟨by omega, by omega⟩) (hx_sg1 (fun _ _ _ => ⟨by omega, by omega⟩) (hx_sg1 (fun _ _ _ => ⟨by omega, by omega⟩) hx_sg0))))))))) (fun w76 f77 g78 e79 o80 n81 hw82 n83 => ?_)
        have hs84 := ty_same_tr hs36 (n83 fz (hx_ok hfz (by decide)))
        have kp86 := hf35.1.1 _ _ hG45 g57
        have kq87 : kb z48.toInt.toNat z71.toInt := ⟨⟨fun _ => by omega, fun _ _ _ => by omega, fun _ _ _ => by omega, fun _ => by omega⟩, fun _ _ => by omega, fun _ _ _ => by omega, fun _ => by omega, fun _ => by omega, fun _ => by omega, fun _ => by omega, fun _ => by omega, fun _ _ => by omega⟩
        have hf85 : F9 G F w76 := ⟨FM_k hf35.1 hG45 g78 n81 (KP_up kp86 o80 (by rw [e79]; exact kq87) (by omega)), hF _ _ (smt_k (n83 prM (by decide)) g57 g78 n81 (fun j hj => o80 j (by omega))) hf35.2⟩
        exact ct55 w76  hw82 hf85 hs84 
    change ab_wp ro (ab_Ev ro ab_codes (d + 94)) 9 false none ab_k_X9_happens (fun o_1 => ∃ v w1, o_1 = (v, w1, 0, 0) ∧ ty_w sp_ G w1 ∧ (F9 G F) w1 ∧ ty_same G fz w w1 ∧ ck_res G none v ∧ ck_wit 0 0 [.ref o, .int p, .int wh] v) (0, [some (.ref o), some (.int p), some (.int wh)], [], w, 0, 0)
    refine ax_go 1 (y := (1, [some (.ref o), some (.int p), some (.int wh)], [.int wh], w, 0, 0)) rfl trivial ?_
    refine hx_if_ne (l := 4) rfl rfl (fun h88 => ?_) (fun h88 => ?_)
    · -- 28
      exact ct28 w  hw hf (ty_same_rf w) 
    · -- 4
      refine ax_go 1 (y := (5, [some (.ref o), some (.int p), some (.int wh)], [.ref o], w, 0, 0)) rfl trivial ?_
      obtain ⟨fs89, g90, -, q91⟩ := hx_obj hw hG0 (s := 30) rfl (by decide)
      obtain ⟨p92, e93, hG94⟩ := hx_fr (k := 2) (s := 32) q91 rfl
      refine hx_gf (l := 8) rfl rfl rfl g90 e93 ?_
      refine hx_k (l := 9) (m := 0) rfl rfl (by decide) (fun z95 h96 => ?_)
      refine ax_go 1 (y := (10, [some (.ref o), some (.int p), some (.int wh)], [.int p, .int z95, .ref p92], w, 0, 0)) rfl trivial ?_
      refine hx_add (l := 11) rfl rfl (fun z97 h98 => ?_)
      replace h98 := h98 (by omega) (by omega)
      refine hx_k (l := 14) (m := 999) rfl rfl (by decide) (fun z99 h100 => ?_)
      refine ax_go 1 (y := (15, [some (.ref o), some (.int p), some (.int wh)], [.ref o, .int z99, .int z97, .ref p92], w, 0, 0)) rfl trivial ?_
      refine hx_gf (l := 18) rfl rfl rfl g90 e93 ?_
      refine hx_k (l := 19) (m := 0) rfl rfl (by decide) (fun z101 h102 => ?_)
      refine ax_go 1 (y := (20, [some (.ref o), some (.int p), some (.int wh)], [.int p, .int z101, .ref p92, .int z99, .int z97, .ref p92], w, 0, 0)) rfl trivial ?_
      refine hx_add (l := 21) rfl rfl (fun z103 h104 => ?_)
      replace h104 := h104 (by omega) (by omega)
      obtain ⟨f105, g106, r107⟩ := hx_row hw hG94 (s := 32) (kd := 0) (n := 5721) rfl (by decide)
      refine hx_il (l := 22) rfl rfl g106 (by omega) (by omega) (fun z108 h109 => ?_)
      have b110 := ((hf.1.1 _ _ hG94 g106).1 z103.toInt.toNat (by omega)).1.1 (by omega)
      rw [← h109] at b110
      refine hx_k (l := 23) (m := 1) rfl rfl (by decide) (fun z111 h112 => ?_)
      refine hx_add (l := 24) rfl rfl (fun z113 h114 => ?_)
      replace h114 := h114 (by omega) (by omega)
      refine hx_pi (l := 27) (as := [.int z99, .int z113]) rfl rfl rfl (hp_X9_lesser (fz := fz) hFF (fun q hq => (by decide +kernel : ∀ q ∈ fb_X9_happens, q ∈ fb_hp_X9_lesser) q (hfz q hq)) (d + 93)) hw hf ⟨(ck_top_ok (G := G) z99), (ck_top_ok (G := G) z113), trivial⟩ trivial (fun w115 z120 hw116 hf117 m118 a121 b122 u123 => ?_)
      rw [u123.1]
      have u124 := u123.2 _ _ _ rfl rfl
      refine hx_is (s := 32) (l := 28) rfl rfl rfl hw hG94 g106 (by omega) (by omega) (hx_sg1 (fun _ _ _ => ⟨by omega, by omega⟩) (hx_sg1 (fun _ _ _ => ⟨by omega, by omega⟩) (hx_sg1 (fun _ _ _ => ⟨by omega, by omega⟩) (hx_sg1 (fun _ _ _ => ⟨by omega, by omega⟩) (hx_sg1 (fun _ _ _ => ⟨by omega, by omega⟩) (hx_sg1 (fun _ _ _ => ⟨by omega, by omega⟩) (hx_sg1 (fun _ _ _ => ⟨by omega, by omega⟩) (hx_sg1 (fun _ _ _ => ⟨by omega, by omega⟩) (hx_sg1 (fun _ _ _ => ⟨by omega, by omega⟩) hx_sg0))))))))) (fun w125 f126 g127 e128 o129 n130 hw131 n132 => ?_)
      have hs133 := ty_same_tr (ty_same_rf w) (n132 fz (hx_ok hfz (by decide)))
      have kp135 := hf.1.1 _ _ hG94 g106
      have kq136 : kb z97.toInt.toNat z120.toInt := ⟨⟨fun _ => by omega, fun _ _ _ => by omega, fun _ _ _ => by omega, fun _ => by omega⟩, fun _ _ => by omega, fun _ _ _ => by omega, fun _ => by omega, fun _ => by omega, fun _ => by omega, fun _ => by omega, fun _ => by omega, fun _ _ => by omega⟩
      have hf134 : F9 G F w125 := ⟨FM_k hf.1 hG94 g127 n130 (KP_up kp135 o129 (by rw [e128]; exact kq136) (by omega)), hF _ _ (smt_k (n132 prM (by decide)) g106 g127 n130 (fun j hj => o129 j (by omega))) hf.2⟩
      exact ct28 w125  hw131 hf134 hs133 
def fb_X9_years : List (Nat × Nat) := [(8, 3), (8, 5), (19, 999), (33, 999), (34, 999), (44, 999), (45, 999), (1, 0), (18, 999), (2, 11), (2, 14), (1, 15), (54, 11), (4, 2), (7, 9), (30, 13), (30, 34), (30, 2), (46, 999), (47, 999), (30, 35), (30, 36), (7, 0), (24, 999), (37, 999), (30, 4), (30, 5), (30, 6), (30, 8), (30, 9), (30, 10), (30, 11), (30, 14), (30, 15), (30, 16), (30, 17), (30, 18), (30, 19), (30, 20), (30, 21), (39, 999), (40, 999), (41, 999), (30, 30), (30, 42), (30, 43), (30, 44), (1, 1), (1, 3), (1, 10), (1, 13), (8, 0), (2, 15), (8, 1)]
set_option maxHeartbeats 8000000 in
theorem h_X9_years {ro : ab_R} {G : Nat → Nat} {fz : List (Nat × Nat)} {F : ab_W → Prop} (hF : ∀ w w', smt G w w' → F w → F w') (hfz : ∀ q ∈ fz, q ∈ fb_X9_years) (d : Nat) : ck_ct ro sp_ G (F9 G F) fz (ab_Ev ro ab_codes (d + 98)) 236 [(2, 30, 0), (0, (-2147483648), 2147483647), (0, (-2147483648), 2147483647)] (some (0, (-2147483648), 2147483647)) 0 0 := by
  have hFF := F9_same hF
  refine ck_hand (d := d + 97) (by decide) (fun as w hw hf has => ?_)
  match as, has with
  | [v0, v1, v2], ⟨h0, h1, h2, _⟩ =>
    obtain ⟨o, rfl, _, hG0⟩ := ty_refn h0 rfl rfl
    replace hG0 : G o = 30 := hG0
    obtain ⟨sd, rfl, hl1, hh1⟩ := ty_int h1 rfl
    replace hl1 : ((-2147483648) : Int) ≤ sd.toInt := hl1
    replace hh1 : sd.toInt ≤ 2147483647 := hh1
    obtain ⟨n, rfl, hl2, hh2⟩ := ty_int h2 rfl
    replace hl2 : ((-2147483648) : Int) ≤ n.toInt := hl2
    replace hh2 : n.toInt ≤ 2147483647 := hh2
    refine ⟨rfl, ?_⟩
    have ct123 : ∀ (nq : Nat) (w1 : ab_W) (k2 : Int32) (u42 : Option Int32), ty_w sp_ G w1 → (F9 G F) w1 → ty_same G fz w w1 → (0 ≤ k2.toInt) → (k2.toInt ≤ 71) → (72 - k2.toInt).toNat < nq → ab_wp ro (ab_Ev ro ab_codes (d + 97)) 9 false (some .int) ab_k_X9_years (fun o_1 => ∃ v w1, o_1 = (v, w1, 0, 0) ∧ ty_w sp_ G w1 ∧ (F9 G F) w1 ∧ ty_same G fz w w1 ∧ ck_res G (some (0, (-2147483648), 2147483647)) v ∧ ck_wit 0 0 [.ref o, .int sd, .int n] v) (123, [some (.ref o), some (.int sd), some (.int n), some (.int k2), (u42.map Value.int)], [], w1, 0, 0) := by
      intro nq
      induction nq with
      | zero => intro w1 k2 u42 hw4 hf5 hs6 i2 i3 hm; exact absurd hm (Nat.not_lt_zero _)
      | succ nq ih123 =>
        intro w1 k2 u42 hw4 hf5 hs6 i2 i3 hm123
        refine ax_go 1 (y := (124, [some (.ref o), some (.int sd), some (.int n), some (.int k2), (u42.map Value.int)], [.int k2], w1, 0, 0)) rfl trivial ?_
        refine hx_k (l := 126) (m := 71) rfl rfl (by decide) (fun z7 h8 => ?_)
        refine hx_ic_ge (l := 129) rfl rfl (fun h9 => ?_) (fun h9 => ?_)
        · -- 147
          refine ax_go 2 (y := (149, [some (.ref o), some (.int sd), some (.int n), some (.int k2), (u42.map Value.int)], [.ref o, .ref o], w1, 0, 0)) rfl trivial ?_
          obtain ⟨fs10, g11, -, q12⟩ := hx_obj hw4 hG0 (s := 30) rfl (by decide)
          refine hx_ci (l := 152) (as := [.ref o]) rfl rfl (hx_iv (j := 189) (n := 0) (o := o) (r := [.ref o]) rfl rfl g11 rfl) (cc_X9_walking_0 (fz := fz) hFF  (fun q hq => (by decide +kernel : ∀ q ∈ fb_X9_years, q ∈ fr_X9_walking_0) q (hfz q hq)) (d + 96)) hw4 hf5 ⟨(hx_tr (G := G) (s := 30) (b := 0) hG0 (by decide)), trivial⟩ (fun w13 z18 hw14 hf15 m16 a19 b20 u21 => ?_)
          have hs17 := ty_same_tr hs6 m16
          obtain ⟨fs22, g23, -, q24⟩ := hx_obj hw14 hG0 (s := 30) rfl (by decide)
          refine hx_pf (q := (0, 0, 0, 0, (-2147483648), 2147483647)) (s := 30) (l := 155) (v := .int z18) rfl rfl rfl (by decide) rfl rfl rfl hw14 hG0 g23 trivial (ck_top_ok (G := G) z18) (fun w25 fs26 g27 e28 o29 n30 hw31 n32 => ?_)
          have hs33 := ty_same_tr hs17 (n32 fz (hx_ok hfz (by decide)))
          have hf34 := hFF _ _ (n32 pr_ (by decide)) hf15
          refine ax_go 1 (y := (156, [some (.ref o), some (.int sd), some (.int n), some (.int k2), (u42.map Value.int)], [.ref o], w25, 0, 0)) rfl trivial ?_
          refine hx_k (l := 157) (m := 0) rfl rfl (by decide) (fun z35 h36 => ?_)
          refine hx_p0 (l := 160) (as := [.ref o, .int z35]) rfl rfl (hx_iv (j := 130) (n := 1) (o := o) (r := []) rfl rfl g27 rfl) (hp_X9_takesBack (fz := fz) hF (fun q hq => (by decide +kernel : ∀ q ∈ fb_X9_years, q ∈ fb_hp_X9_takesBack) q (hfz q hq)) (d + 96)) hw31 hf34 ⟨(hx_tr (G := G) (s := 30) (b := 0) hG0 (by decide)), (hx_ti (G := G) (lo := 0) (hi := 1) (by omega) (by omega)), trivial⟩ trivial (fun w37 hw38 hf39 m40 u45 => ?_)
          have hs41 := ty_same_tr hs33 m40
          refine ax_go 2 (y := (162, [some (.ref o), some (.int sd), some (.int n), some (.int k2), (u42.map Value.int)], [.ref o, .ref o], w37, 0, 0)) rfl trivial ?_
          obtain ⟨fs46, g47, -, q48⟩ := hx_obj hw38 hG0 (s := 30) rfl (by decide)
          obtain ⟨x49, e50, a51, b52⟩ := hx_fi (k := 31) (lo := (-2147483648)) (hi := 2147483647) q48 rfl
          refine hx_gf (l := 165) rfl rfl rfl g47 e50 ?_
          refine hx_ci (l := 168) (as := [.ref o, .int x49]) rfl rfl (hx_iv (j := 125) (n := 1) (o := o) (r := []) rfl rfl g47 rfl) (cc_X9_good_0 (fz := fz) hFF  (fun q hq => (by decide +kernel : ∀ q ∈ fb_X9_years, q ∈ fr_X9_good_0) q (hfz q hq)) (d + 96)) hw38 hf39 ⟨(hx_tr (G := G) (s := 30) (b := 0) hG0 (by decide)), (ck_top_ok (G := G) x49), trivial⟩ (fun w53 z58 hw54 hf55 m56 a59 b60 u61 => ?_)
          have hs57 := ty_same_tr hs41 m56
          exact ax_ret rfl rfl trivial ⟨some (.int z58), _, rfl, hw54, hf55, hs57, (ck_top_ok (G := G) z58), trivial⟩
        · -- 129
          refine ax_go 1 (y := (130, [some (.ref o), some (.int sd), some (.int n), some (.int k2), (u42.map Value.int)], [.ref o], w1, 0, 0)) rfl trivial ?_
          obtain ⟨fs62, g63, -, q64⟩ := hx_obj hw4 hG0 (s := 30) rfl (by decide)
          obtain ⟨p65, e66, hG67⟩ := hx_fr (k := 48) (s := 53) q64 rfl
          refine hx_gf (l := 133) rfl rfl rfl g63 e66 ?_
          refine ax_go 2 (y := (135, [some (.ref o), some (.int sd), some (.int n), some (.int k2), (u42.map Value.int)], [.ref o, .int k2, .ref p65], w1, 0, 0)) rfl trivial ?_
          obtain ⟨p68, e69, hG70⟩ := hx_fr (k := 2) (s := 32) q64 rfl
          refine hx_gf (l := 138) rfl rfl rfl g63 e69 ?_
          refine ax_go 1 (y := (139, [some (.ref o), some (.int sd), some (.int n), some (.int k2), (u42.map Value.int)], [.int k2, .ref p68, .int k2, .ref p65], w1, 0, 0)) rfl trivial ?_
          obtain ⟨f71, g72, r73⟩ := hx_row hw4 hG70 (s := 32) (kd := 0) (n := 5721) rfl (by decide)
          refine hx_il (l := 140) rfl rfl g72 (by omega) (by omega) (fun z74 h75 => ?_)
          obtain ⟨f76, g77, r78⟩ := hx_row hw4 hG67 (s := 53) (kd := 0) (n := 71) rfl (by decide)
          refine hx_is (s := 53) (l := 141) rfl rfl rfl hw4 hG67 g77 (by omega) (by omega) hx_sg0 (fun w79 f80 g81 e82 o83 n84 hw85 n86 => ?_)
          have hs87 := ty_same_tr hs6 (n86 fz (hx_ok hfz (by decide)))
          have hf88 := hFF _ _ (n86 pr_ (by decide)) hf5
          refine hx_iinc (x := k2) (n := 1) (l := 144) rfl rfl rfl (Nat.le_of_ble_eq_true rfl) (by omega) (by omega) (by decide) (fun z89 h90 => ?_)
          change ab_wp ro (ab_Ev ro ab_codes (d + 97)) 9 false (some .int) ab_k_X9_years (fun o_1 => ∃ v w1, o_1 = (v, w1, 0, 0) ∧ ty_w sp_ G w1 ∧ (F9 G F) w1 ∧ ty_same G fz w w1 ∧ ck_res G (some (0, (-2147483648), 2147483647)) v ∧ ck_wit 0 0 [.ref o, .int sd, .int n] v) (144, [some (.ref o), some (.int sd), some (.int n), some (.int z89), (u42.map Value.int)], [], w79, 0, 0)
          refine ax_go 1 (y := (123, [some (.ref o), some (.int sd), some (.int n), some (.int z89), (u42.map Value.int)], [], w79, 0, 0)) rfl trivial ?_
          exact ih123 w79 z89 u42 hw85 hf88 hs87 (by omega) (by omega) (by omega)
    have ct71 : ∀ (nq : Nat) (w91 : ab_W) (k : Int32) (u4 : Option Int32) (dm : Int32), ty_w sp_ G w91 → (F9 G F) w91 → ty_same G fz w w91 → (hx_has w91 o 9 49 (.int dm)) → (0 ≤ k.toInt) → (k.toInt ≤ 100) → (1 ≤ dm.toInt) → (n.toInt ≤ 100) → (101 - k.toInt).toNat < nq → ab_wp ro (ab_Ev ro ab_codes (d + 97)) 9 false (some .int) ab_k_X9_years (fun o_1 => ∃ v w1, o_1 = (v, w1, 0, 0) ∧ ty_w sp_ G w1 ∧ (F9 G F) w1 ∧ ty_same G fz w w1 ∧ ck_res G (some (0, (-2147483648), 2147483647)) v ∧ ck_wit 0 0 [.ref o, .int sd, .int n] v) (71, [some (.ref o), some (.int sd), some (.int n), some (.int k), (u4.map Value.int)], [], w91, 0, 0) := by
      intro nq
      induction nq with
      | zero => intro w91 k u4 dm hw97 hf98 hs99 hh92 i93 i94 i95 i96 hm; exact absurd hm (Nat.not_lt_zero _)
      | succ nq ih71 =>
        intro w91 k u4 dm hw97 hf98 hs99 hh92 i93 i94 i95 i96 hm71
        obtain ⟨fs100, g101, e102⟩ := hh92
        have q103 := hx_oq hw97 g101 hG0 (s := 30) rfl
        obtain ⟨x104, e105, a106, b107⟩ := hx_fi (k := 49) (lo := (-1)) (hi := 10) q103 rfl
        obtain rfl : dm = x104 := hx_inji e102 e105
        refine ax_go 2 (y := (73, [some (.ref o), some (.int sd), some (.int n), some (.int k), (u4.map Value.int)], [.int n, .int k], w91, 0, 0)) rfl trivial ?_
        refine hx_ic_ge (l := 76) rfl rfl (fun h108 => ?_) (fun h108 => ?_)
        · -- 121
          refine hx_k (l := 122) (m := 0) rfl rfl (by decide) (fun z109 h110 => ?_)
          refine ax_go 1 (y := (123, [some (.ref o), some (.int sd), some (.int n), some (.int z109), (u4.map Value.int)], [], w91, 0, 0)) rfl trivial ?_
          exact ct123 _ w91 z109 u4 hw97 hf98 hs99 (by omega) (by omega) (Nat.lt_succ_self _)
        · -- 76
          refine ax_go 1 (y := (77, [some (.ref o), some (.int sd), some (.int n), some (.int k), (u4.map Value.int)], [.ref o], w91, 0, 0)) rfl trivial ?_
          obtain ⟨p111, e112, hG113⟩ := hx_fr (k := 2) (s := 32) q103 rfl
          refine hx_gf (l := 80) rfl rfl rfl g101 e112 ?_
          refine hx_k (l := 82) (m := 70) rfl rfl (by decide) (fun z114 h115 => ?_)
          obtain ⟨f116, g117, r118⟩ := hx_row hw97 hG113 (s := 32) (kd := 0) (n := 5721) rfl (by decide)
          refine hx_il (l := 83) rfl rfl g117 (by omega) (by omega) (fun z119 h120 => ?_)
          refine hx_k (l := 86) (m := 999) rfl rfl (by decide) (fun z121 h122 => ?_)
          refine hx_ic_ge (l := 89) rfl rfl (fun h123 => ?_) (fun h123 => ?_)
          · -- 121
            refine hx_k (l := 122) (m := 0) rfl rfl (by decide) (fun z124 h125 => ?_)
            refine ax_go 1 (y := (123, [some (.ref o), some (.int sd), some (.int n), some (.int z124), (u4.map Value.int)], [], w91, 0, 0)) rfl trivial ?_
            exact ct123 _ w91 z124 u4 hw97 hf98 hs99 (by omega) (by omega) (Nat.lt_succ_self _)
          · -- 89
            refine ax_go 2 (y := (91, [some (.ref o), some (.int sd), some (.int n), some (.int k), (u4.map Value.int)], [.ref o, .ref o], w91, 0, 0)) rfl trivial ?_
            refine hx_gf (l := 94) rfl rfl rfl g101 e102 ?_
            refine hx_pi (l := 97) (as := [.ref o, .int dm]) rfl rfl (hx_iv (j := 234) (n := 1) (o := o) (r := []) rfl rfl g101 rfl) (hp_X9_draws (fz := ([(30, 49)] ++ fz)) hF (hx_app (by decide +kernel) (fun q hq => (by decide +kernel : ∀ q ∈ fb_X9_years, q ∈ fb_hp_X9_draws) q (hfz q hq))) (d + 96)) hw97 hf98 ⟨(hx_tr (G := G) (s := 30) (b := 0) hG0 (by decide)), (hx_ti (G := G) (lo := 1) (hi := 10) (by omega) (by omega)), trivial⟩ trivial (fun w126 z131 hw127 hf128 m129 a132 b133 u134 => ?_)
            have hs130 := ty_same_tr hs99 (hx_sapp m129)
            obtain ⟨fs135, g136, -, q137⟩ := hx_obj hw127 hG0 (s := 30) rfl (by decide)
            replace u134 := u134 _ _ _ rfl rfl
            refine ax_go 4 (y := (103, [some (.ref o), some (.int sd), some (.int n), some (.int k), some (.int z131)], [.ref o, .int z131, .ref o], w126, 0, 0)) rfl trivial ?_
            refine hx_k (l := 104) (m := 3) rfl rfl (by decide) (fun z138 h139 => ?_)
            refine hx_pi (l := 107) (as := [.ref o, .int z138]) rfl rfl (hx_iv (j := 234) (n := 1) (o := o) (r := [.int z131, .ref o]) rfl rfl g136 rfl) (hp_X9_draws (fz := ([(30, 49)] ++ fz)) hF (hx_app (by decide +kernel) (fun q hq => (by decide +kernel : ∀ q ∈ fb_X9_years, q ∈ fb_hp_X9_draws) q (hfz q hq))) (d + 96)) hw127 hf128 ⟨(hx_tr (G := G) (s := 30) (b := 0) hG0 (by decide)), (hx_ti (G := G) (lo := 1) (hi := 10) (by omega) (by omega)), trivial⟩ trivial (fun w140 z145 hw141 hf142 m143 a146 b147 u148 => ?_)
            have hs144 := ty_same_tr hs130 (hx_sapp m143)
            obtain ⟨fs149, g150, -, q151⟩ := hx_obj hw141 hG0 (s := 30) rfl (by decide)
            replace u148 := u148 _ _ _ rfl rfl
            refine hx_c0 (l := 110) (as := [.ref o, .int z131, .int z145]) rfl rfl (hx_iv (j := 235) (n := 2) (o := o) (r := []) rfl rfl g150 rfl) (h_X9_happens (fz := ([(30, 49)] ++ fz)) hF (hx_app (by decide +kernel) (fun q hq => (by decide +kernel : ∀ q ∈ fb_X9_years, q ∈ fb_X9_happens) q (hfz q hq))) (d + 2)) hw141 hf142 ⟨(hx_tr (G := G) (s := 30) (b := 0) hG0 (by decide)), (hx_ti (G := G) (lo := 0) (hi := 9) (by omega) (by omega)), (ck_top_ok (G := G) z145), trivial⟩ (fun w152 hw153 hf154 m155 => ?_)
            have hs156 := ty_same_tr hs144 (hx_sapp m155)
            obtain ⟨fs161, g162, -, q163⟩ := hx_obj hw153 hG0 (s := 30) rfl (by decide)
            refine ax_go 1 (y := (111, [some (.ref o), some (.int sd), some (.int n), some (.int k), some (.int z131)], [.ref o], w152, 0, 0)) rfl trivial ?_
            refine hx_ci (l := 114) (as := [.ref o]) rfl rfl (hx_iv (j := 194) (n := 0) (o := o) (r := []) rfl rfl g162 rfl) (h_X9_dayPasses (fz := ([(30, 49)] ++ fz)) hF (hx_app (by decide +kernel) (fun q hq => (by decide +kernel : ∀ q ∈ fb_X9_years, q ∈ fb_X9_dayPasses) q (hfz q hq))) (d + 94)) hw153 hf154 ⟨(hx_tr (G := G) (s := 30) (b := 0) hG0 (by decide)), trivial⟩ (fun w164 z169 hw165 hf166 m167 a170 b171 u172 => ?_)
            have hs168 := ty_same_tr hs156 (hx_sapp m167)
            obtain ⟨fs173, g174, -, q175⟩ := hx_obj hw165 hG0 (s := 30) rfl (by decide)
            refine ax_go 1 (y := (115, [some (.ref o), some (.int sd), some (.int n), some (.int k), some (.int z131)], [], w164, 0, 0)) rfl trivial ?_
            refine hx_iinc (x := k) (n := 1) (l := 118) rfl rfl rfl (Nat.le_of_ble_eq_true rfl) (by omega) (by omega) (by decide) (fun z176 h177 => ?_)
            change ab_wp ro (ab_Ev ro ab_codes (d + 97)) 9 false (some .int) ab_k_X9_years (fun o_1 => ∃ v w1, o_1 = (v, w1, 0, 0) ∧ ty_w sp_ G w1 ∧ (F9 G F) w1 ∧ ty_same G fz w w1 ∧ ck_res G (some (0, (-2147483648), 2147483647)) v ∧ ck_wit 0 0 [.ref o, .int sd, .int n] v) (118, [some (.ref o), some (.int sd), some (.int n), some (.int z176), some (.int z131)], [], w164, 0, 0)
            refine ax_go 1 (y := (71, [some (.ref o), some (.int sd), some (.int n), some (.int z176), some (.int z131)], [], w164, 0, 0)) rfl trivial ?_
            exact ih71 w164 z176 (some z131) dm hw165 hf166 hs168 ⟨_, g174, ((hx_kf m167 (hx_mem hG0 (by decide)) g162 g174).trans ((hx_kf m155 (hx_mem hG0 (by decide)) g150 g162).trans ((hx_kf m143 (hx_mem hG0 (by decide)) g136 g150).trans ((hx_kf m129 (hx_mem hG0 (by decide)) g101 g136).trans e102))))⟩ (by omega) (by omega) (by omega) (by omega) (by omega)
    change ab_wp ro (ab_Ev ro ab_codes (d + 97)) 9 false (some .int) ab_k_X9_years (fun o_1 => ∃ v w1, o_1 = (v, w1, 0, 0) ∧ ty_w sp_ G w1 ∧ (F9 G F) w1 ∧ ty_same G fz w w1 ∧ ck_res G (some (0, (-2147483648), 2147483647)) v ∧ ck_wit 0 0 [.ref o, .int sd, .int n] v) (0, [some (.ref o), some (.int sd), some (.int n), none, none], [], w, 0, 0)
    refine ax_go 1 (y := (1, [some (.ref o), some (.int sd), some (.int n), none, none], [.int sd], w, 0, 0)) rfl trivial ?_
    refine hx_k (l := 2) (m := 0) rfl rfl (by decide) (fun z178 h179 => ?_)
    refine hx_k (l := 4) (m := 1000000) rfl rfl (by decide) (fun z180 h181 => ?_)
    refine hx_pi (l := 7) (as := [.int sd, .int z178, .int z180]) rfl rfl rfl (hp_X9_lies (fz := fz) hFF (fun q hq => (by decide +kernel : ∀ q ∈ fb_X9_years, q ∈ fb_hp_X9_lies) q (hfz q hq)) (d + 96)) hw hf ⟨(ck_top_ok (G := G) sd), (ck_top_ok (G := G) z178), (ck_top_ok (G := G) z180), trivial⟩ trivial (fun w182 z187 hw183 hf184 m185 a188 b189 u190 => ?_)
    rw [u190.1]
    have u191 := u190.2 _ _ _ _ rfl rfl
    clear u190
    refine hx_if_eq (l := 10) rfl rfl (fun h192 => ?_) (fun h192 => ?_)
    · -- 20
      clear u191
      refine ax_go 1 (y := (21, [some (.ref o), some (.int sd), some (.int n), none, none], [.ref o], w, 0, 0)) rfl trivial ?_
      refine hx_k (l := 22) (m := (-1)) rfl rfl (by decide) (fun z193 h194 => ?_)
      obtain ⟨fs195, g196, -, q197⟩ := hx_obj hw hG0 (s := 30) rfl (by decide)
      refine hx_ci (l := 25) (as := [.ref o, .int z193]) rfl rfl (hx_iv (j := 124) (n := 1) (o := o) (r := []) rfl rfl g196 rfl) (cc_X9_refuses_0 (fz := fz) hFF  (fun q hq => (by decide +kernel : ∀ q ∈ fb_X9_years, q ∈ fr_X9_refuses_0) q (hfz q hq)) (d + 96)) hw hf ⟨(hx_tr (G := G) (s := 30) (b := 0) hG0 (by decide)), (hx_ti (G := G) (lo := (-6)) (hi := (-1)) (by omega) (by omega)), trivial⟩ (fun w198 z203 hw199 hf200 m201 a204 b205 u206 => ?_)
      have hs202 := ty_same_tr (ty_same_rf w) m201
      exact ax_ret rfl rfl trivial ⟨some (.int z203), _, rfl, hw199, hf200, hs202, (ck_top_ok (G := G) z203), trivial⟩
    · -- 10
      replace u191 := u191.1 (by omega)
      refine ax_go 1 (y := (11, [some (.ref o), some (.int sd), some (.int n), none, none], [.int n], w, 0, 0)) rfl trivial ?_
      refine hx_k (l := 12) (m := 1) rfl rfl (by decide) (fun z207 h208 => ?_)
      refine hx_k (l := 14) (m := 100) rfl rfl (by decide) (fun z209 h210 => ?_)
      refine hx_pi (l := 17) (as := [.int n, .int z207, .int z209]) rfl rfl rfl (hp_X9_lies (fz := fz) hFF (fun q hq => (by decide +kernel : ∀ q ∈ fb_X9_years, q ∈ fb_hp_X9_lies) q (hfz q hq)) (d + 96)) hw hf ⟨(ck_top_ok (G := G) n), (ck_top_ok (G := G) z207), (ck_top_ok (G := G) z209), trivial⟩ trivial (fun w211 z216 hw212 hf213 m214 a217 b218 u219 => ?_)
      rw [u219.1]
      have u220 := u219.2 _ _ _ _ rfl rfl
      clear u219
      refine hx_if_ne (l := 20) rfl rfl (fun h221 => ?_) (fun h221 => ?_)
      · -- 26
        replace u220 := u220.1 (by omega)
        refine ax_go 1 (y := (27, [some (.ref o), some (.int sd), some (.int n), none, none], [.ref o], w, 0, 0)) rfl trivial ?_
        obtain ⟨fs222, g223, -, q224⟩ := hx_obj hw hG0 (s := 30) rfl (by decide)
        obtain ⟨p225, e226, hG227⟩ := hx_fr (k := 2) (s := 32) q224 rfl
        refine hx_gf (l := 30) rfl rfl rfl g223 e226 ?_
        refine hx_k (l := 32) (m := 110) rfl rfl (by decide) (fun z228 h229 => ?_)
        obtain ⟨f230, g231, r232⟩ := hx_row hw hG227 (s := 32) (kd := 0) (n := 5721) rfl (by decide)
        refine hx_il (l := 33) rfl rfl g231 (by omega) (by omega) (fun z233 h234 => ?_)
        have b235 := ((hf.1.1 _ _ hG227 g231).1 z228.toInt.toNat (by omega)).2.2.2.2.1 (by omega)
        rw [← h234] at b235
        rw [show z228.toInt.toNat = 110 by omega] at h234
        replace h234 := congrArg Int32.toInt h234
        refine hx_if_ne (l := 36) rfl rfl (fun h236 => ?_) (fun h236 => ?_)
        · -- 43
          refine ax_go 2 (y := (45, [some (.ref o), some (.int sd), some (.int n), none, none], [.int sd, .ref o], w, 0, 0)) rfl trivial ?_
          refine hx_pf (q := (0, 0, 0, 0, 0, 1000002)) (s := 30) (l := 48) (v := .int sd) rfl rfl rfl (by decide) rfl rfl rfl hw hG0 g223 trivial (hx_ti (G := G) (lo := 0) (hi := 1000002) (by omega) (by omega)) (fun w237 fs238 g239 e240 o241 n242 hw243 n244 => ?_)
          have hs245 := ty_same_tr (ty_same_rf w) (n244 fz (hx_ok hfz (by decide)))
          have hf246 := hFF _ _ (n244 pr_ (by decide)) hf
          refine ax_go 2 (y := (50, [some (.ref o), some (.int sd), some (.int n), none, none], [.ref o, .ref o], w237, 0, 0)) rfl trivial ?_
          refine hx_gf (l := 53) rfl rfl rfl g239 ((o241 2 (by decide)).trans e226) ?_
          refine hx_k (l := 55) (m := 110) rfl rfl (by decide) (fun z247 h248 => ?_)
          refine hx_il (l := 56) rfl rfl ((n242 _ (hx_ne hG227 hG0 (by decide))).trans g231) (by omega) (by omega) (fun z249 h250 => ?_)
          have b251 := ((hf246.1.1 _ _ hG227 ((n242 _ (hx_ne hG227 hG0 (by decide))).trans g231)).1 z247.toInt.toNat (by omega)).2.2.2.2.1 (by omega)
          rw [← h250] at b251
          rw [show z247.toInt.toNat = 110 by omega] at h250
          replace h250 := congrArg Int32.toInt h250
          refine hx_pf (q := (0, 0, 0, 0, (-1), 10)) (s := 30) (l := 59) (v := .int z249) rfl rfl rfl (by decide) rfl rfl rfl hw243 hG0 g239 trivial (hx_ti (G := G) (lo := (-1)) (hi := 10) (by omega) (by omega)) (fun w252 fs253 g254 e255 o256 n257 hw258 n259 => ?_)
          have hs260 := ty_same_tr hs245 (n259 fz (hx_ok hfz (by decide)))
          have hf261 := hFF _ _ (n259 pr_ (by decide)) hf246
          refine ax_go 1 (y := (60, [some (.ref o), some (.int sd), some (.int n), none, none], [.ref o], w252, 0, 0)) rfl trivial ?_
          refine hx_k (l := 61) (m := 0) rfl rfl (by decide) (fun z262 h263 => ?_)
          refine hx_p0 (l := 64) (as := [.ref o, .int z262]) rfl rfl (hx_iv (j := 129) (n := 1) (o := o) (r := []) rfl rfl g254 rfl) (hp_X9_laysAside (fz := ([(30, 49)] ++ fz)) hF (hx_app (by decide +kernel) (fun q hq => (by decide +kernel : ∀ q ∈ fb_X9_years, q ∈ fb_hp_X9_laysAside) q (hfz q hq))) (d + 96)) hw258 hf261 ⟨(hx_tr (G := G) (s := 30) (b := 0) hG0 (by decide)), (hx_ti (G := G) (lo := 0) (hi := 1) (by omega) (by omega)), trivial⟩ trivial (fun w264 hw265 hf266 m267 u272 => ?_)
          have hs268 := ty_same_tr hs260 (hx_sapp m267)
          obtain ⟨fs273, g274, -, q275⟩ := hx_obj hw265 hG0 (s := 30) rfl (by decide)
          refine ax_go 1 (y := (65, [some (.ref o), some (.int sd), some (.int n), none, none], [.ref o], w264, 0, 0)) rfl trivial ?_
          refine hx_k (l := 66) (m := 0) rfl rfl (by decide) (fun z276 h277 => ?_)
          refine hx_pf (q := (0, 0, 0, 0, (-2147483648), 2147483647)) (s := 30) (l := 69) (v := .int z276) rfl rfl rfl (by decide) rfl rfl rfl hw265 hG0 g274 trivial (ck_top_ok (G := G) z276) (fun w278 fs279 g280 e281 o282 n283 hw284 n285 => ?_)
          have hs286 := ty_same_tr hs268 (n285 fz (hx_ok hfz (by decide)))
          have hf287 := hFF _ _ (n285 pr_ (by decide)) hf266
          refine hx_k (l := 70) (m := 0) rfl rfl (by decide) (fun z288 h289 => ?_)
          refine ax_go 1 (y := (71, [some (.ref o), some (.int sd), some (.int n), some (.int z288), none], [], w278, 0, 0)) rfl trivial ?_
          exact ct71 _ w278 z288 none z249 hw284 hf287 hs286 ⟨_, g280, ((o282 49 (by decide)).trans ((hx_kf m267 (hx_mem hG0 (by decide)) g254 g274).trans e255))⟩ (by omega) (by omega) (by omega) (by omega) (Nat.lt_succ_self _)
        · -- 36
          refine ax_go 1 (y := (37, [some (.ref o), some (.int sd), some (.int n), none, none], [.ref o], w, 0, 0)) rfl trivial ?_
          refine hx_k (l := 39) (m := (-3)) rfl rfl (by decide) (fun z290 h291 => ?_)
          refine hx_ci (l := 42) (as := [.ref o, .int z290]) rfl rfl (hx_iv (j := 124) (n := 1) (o := o) (r := []) rfl rfl g223 rfl) (cc_X9_refuses_0 (fz := fz) hFF  (fun q hq => (by decide +kernel : ∀ q ∈ fb_X9_years, q ∈ fr_X9_refuses_0) q (hfz q hq)) (d + 96)) hw hf ⟨(hx_tr (G := G) (s := 30) (b := 0) hG0 (by decide)), (hx_ti (G := G) (lo := (-6)) (hi := (-1)) (by omega) (by omega)), trivial⟩ (fun w292 z297 hw293 hf294 m295 a298 b299 u300 => ?_)
          have hs296 := ty_same_tr (ty_same_rf w) m295
          exact ax_ret rfl rfl trivial ⟨some (.int z297), _, rfl, hw293, hf294, hs296, (ck_top_ok (G := G) z297), trivial⟩
      · -- 20
        clear u220
        refine ax_go 1 (y := (21, [some (.ref o), some (.int sd), some (.int n), none, none], [.ref o], w, 0, 0)) rfl trivial ?_
        refine hx_k (l := 22) (m := (-1)) rfl rfl (by decide) (fun z301 h302 => ?_)
        obtain ⟨fs303, g304, -, q305⟩ := hx_obj hw hG0 (s := 30) rfl (by decide)
        refine hx_ci (l := 25) (as := [.ref o, .int z301]) rfl rfl (hx_iv (j := 124) (n := 1) (o := o) (r := []) rfl rfl g304 rfl) (cc_X9_refuses_0 (fz := fz) hFF  (fun q hq => (by decide +kernel : ∀ q ∈ fb_X9_years, q ∈ fr_X9_refuses_0) q (hfz q hq)) (d + 96)) hw hf ⟨(hx_tr (G := G) (s := 30) (b := 0) hG0 (by decide)), (hx_ti (G := G) (lo := (-6)) (hi := (-1)) (by omega) (by omega)), trivial⟩ (fun w306 z311 hw307 hf308 m309 a312 b313 u314 => ?_)
        have hs310 := ty_same_tr (ty_same_rf w) m309
        exact ax_ret rfl rfl trivial ⟨some (.int z311), _, rfl, hw307, hf308, hs310, (ck_top_ok (G := G) z311), trivial⟩
