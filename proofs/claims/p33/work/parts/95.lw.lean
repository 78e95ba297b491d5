/-! walks by program: the class's law(), ahead of its trimmed text and behind it -/
def fb_hq_law_pre : List (Nat × Nat) := [(19, 999), (32, 999), (33, 999), (34, 999), (35, 999), (44, 999), (45, 999), (18, 999), (2, 11), (2, 14), (1, 15), (54, 11), (4, 2), (7, 9), (30, 13), (30, 34), (30, 2), (30, 22), (30, 23), (30, 24), (30, 25), (46, 999), (47, 999), (30, 35), (30, 36), (7, 0), (24, 999), (37, 999), (30, 4), (30, 5), (30, 6), (30, 8), (30, 9), (30, 10), (30, 11), (30, 14), (30, 15), (30, 16), (30, 17), (30, 18), (30, 19), (30, 20), (30, 21), (39, 999), (40, 999), (41, 999), (30, 30), (30, 42), (30, 43), (30, 44), (1, 1), (1, 3), (1, 10), (8, 0), (30, 49), (2, 15), (8, 1)]
set_option maxHeartbeats 8000000 in
theorem hq_law_pre {ro : ab_R} {G : Nat → Nat} {fz : List (Nat × Nat)} {F : ab_W → Prop} (hF : ∀ w w', ty_same G pr5 w w' → F w → F w') (hfz : ∀ q ∈ fz, q ∈ fb_hq_law_pre) (d : Nat) {Q : ab_O → Prop} {o : Nat} {w : ab_W} (hw : ty_w sp_ G w) (hf : (F5 G F) w) (hG0 : G o = 1) (hQ0 : ∀ (z b : Int32) (w1 : ab_W), ty_w sp_ G w1 → (F5 G F) w1 → ty_same G fz w w1 → hx_has w1 o 8 0 (.int b) → b.toInt = 0 → Q (some (.int z), w1, 0, 0)) (hQ1 : ∀ (w1 : ab_W) (ln lm b : Int32) (tx lws la : Nat), ty_w sp_ G w1 → (F5 G F) w1 → ty_same G fz w w1 → G tx = 9 → G lws = 16 → G la = 2 → (0 ≤ lm.toInt ∧ lm.toInt ≤ 5) → hx_has w1 o 8 1 (.ref la) → hx_has w1 la 1 15 (.int lm) → hx_has w1 o 8 0 (.int b) → b.toInt = 0 → ab_wp ro (ab_Ev ro ab_codes (d + 45)) 8 false (some .int) ab_k_X8_law Q (78, [some (.ref o), some (.int ln)], [.ref tx, .int lm, .ref lws], w1, 0, 0))  : ab_wp ro (ab_Ev ro ab_codes (d + 45)) 8 false (some .int) ab_k_X8_law Q (0, [some (.ref o), none], [], w, 0, 0) := by
  have hFF := F5_same hF
  change ab_wp ro (ab_Ev ro ab_codes (d + 45)) 8 false (some .int) ab_k_X8_law Q (0, [some (.ref o), none], [], w, 0, 0)
  refine ax_go 1 (y := (1, [some (.ref o), none], [.ref o], w, 0, 0)) rfl trivial ?_
  obtain ⟨fs1, g2, -, q3⟩ := hx_obj hw hG0 (s := 1) rfl (by decide)
  obtain ⟨x4, e5, a6, b7⟩ := hx_fi (k := 0) (lo := 0) (hi := 400) q3 rfl
  refine hx_gf (l := 4) rfl rfl rfl g2 e5 ?_
  refine ax_go 2 (y := (6, [some (.ref o), some (.int x4)], [.ref o], w, 0, 0)) rfl trivial ?_
  refine hx_k (l := 7) (m := 0) rfl rfl (by decide) (fun z8 h9 => ?_)
  refine hx_pf (q := (0, 0, 0, 0, 0, 400)) (s := 1) (l := 10) (v := .int z8) rfl rfl rfl (by decide) rfl rfl rfl hw hG0 g2 trivial (hx_ti (G := G) (lo := 0) (hi := 400) (by omega) (by omega)) (fun w10 fs11 g12 e13 o14 n15 hw16 n17 => ?_)
  have hs18 := ty_same_tr (ty_same_rf w) (n17 fz (hx_ok hfz (by decide)))
  have hf19 := hFF _ _ (n17 pr_ (by decide)) hf
  refine ax_go 1 (y := (11, [some (.ref o), some (.int x4)], [.ref o], w10, 0, 0)) rfl trivial ?_
  have q20 := hx_oq hw16 g12 hG0 (s := 1) rfl
  obtain ⟨p21, e22, hG23⟩ := hx_fr (k := 1) (s := 2) q20 rfl
  refine hx_gf (l := 14) rfl rfl rfl g12 e22 ?_
  obtain ⟨fs24, g25, -, q26⟩ := hx_obj hw16 hG23 (s := 2) rfl (by decide)
  obtain ⟨x27, e28, a29, b30⟩ := hx_fi (k := 15) (lo := 0) (hi := 6) q26 rfl
  refine hx_gf (l := 17) rfl rfl rfl g25 e28 ?_
  refine hx_k (l := 19) (m := 6) rfl rfl (by decide) (fun z31 h32 => ?_)
  refine hx_ic_lt (l := 22) rfl rfl (fun h33 => ?_) (fun h33 => ?_)
  · -- 29
    refine ax_go 2 (y := (31, [some (.ref o), some (.int x4)], [.ref o, .ref o], w10, 0, 0)) rfl trivial ?_
    obtain ⟨p34, e35, hG36⟩ := hx_fr (k := 10) (s := 8) q20 rfl
    refine hx_gf (l := 34) rfl rfl rfl g12 e35 ?_
    refine ax_go 1 (y := (35, [some (.ref o), some (.int x4)], [.int x4, .ref p34, .ref o], w10, 0, 0)) rfl trivial ?_
    refine hx_k (l := 36) (m := 0) rfl rfl (by decide) (fun z37 h38 => ?_)
    obtain ⟨fs39, g40, -, q41⟩ := hx_obj hw16 hG36 (s := 8) rfl (by decide)
    refine hx_ci (l := 39) (as := [.ref p34, .int x4, .int z37]) rfl rfl (hx_iv (j := 43) (n := 2) (o := p34) (r := [.ref o]) rfl rfl g40 rfl) (cc_X5_read_0 (fz := ([(1, 0), (1, 1), (2, 15), (1, 10)] ++ fz)) hFF (fun d => h_X5_step (fz := ([(1, 0), (1, 1), (2, 15), (1, 10)] ++ fz)) hF (hx_app (by decide +kernel) (fun q hq => (by decide +kernel : ∀ q ∈ fb_hq_law_pre, q ∈ fb_X5_step) q (hfz q hq))) d) (fun d => h_X5_fail (fz := ([(1, 0), (1, 1), (2, 15), (1, 10)] ++ fz)) hF (hx_app (by decide +kernel) (fun q hq => (by decide +kernel : ∀ q ∈ fb_hq_law_pre, q ∈ fb_X5_fail) q (hfz q hq))) d) (fun d => h_X7_openClause (fz := ([(1, 0), (1, 1), (2, 15), (1, 10)] ++ fz)) hFF (hx_app (by decide +kernel) (fun q hq => (by decide +kernel : ∀ q ∈ fb_hq_law_pre, q ∈ fb_X7_openClause) q (hfz q hq))) d) (fun d => h_X5_is (fz := ([(1, 0), (1, 1), (2, 15), (1, 10)] ++ fz)) hFF (hx_app (by decide +kernel) (fun q hq => (by decide +kernel : ∀ q ∈ fb_hq_law_pre, q ∈ fb_X5_is) q (hfz q hq))) d) (fun d => h_X5_isSign (fz := ([(1, 0), (1, 1), (2, 15), (1, 10)] ++ fz)) hF (hx_app (by decide +kernel) (fun q hq => (by decide +kernel : ∀ q ∈ fb_hq_law_pre, q ∈ fb_X5_isSign) q (hfz q hq))) d) (fun d => h_X5_emit (fz := ([(1, 0), (1, 1), (2, 15), (1, 10)] ++ fz)) hFF (hx_app (by decide +kernel) (fun q hq => (by decide +kernel : ∀ q ∈ fb_hq_law_pre, q ∈ fb_X5_emit) q (hfz q hq))) d) (hx_app (by decide +kernel) (fun q hq => (by decide +kernel : ∀ q ∈ fb_hq_law_pre, q ∈ fr_X5_read_0) q (hfz q hq))) (d + 9)) hw16 hf19 ⟨(hx_tr (G := G) (s := 8) (b := 0) hG36 (by decide)), (hx_ti (G := G) (lo := 0) (hi := 400) (by omega) (by omega)), (hx_ti (G := G) (lo := 0) (hi := 1) (by omega) (by omega)), trivial⟩ (fun w42 z47 hw43 hf44 m45 a48 b49 u50 => ?_)
    have hs46 := ty_same_tr hs18 (hx_sapp m45)
    obtain ⟨fs51, g52, -, q53⟩ := hx_obj hw43 hG0 (s := 1) rfl (by decide)
    obtain ⟨fs54, g55, -, q56⟩ := hx_obj hw43 hG23 (s := 2) rfl (by decide)
    refine hx_pf (q := (0, 0, 0, 0, (-2147483648), 2147483647)) (s := 1) (l := 42) (v := .int z47) rfl rfl rfl (by decide) rfl rfl rfl hw43 hG0 g52 trivial (ck_top_ok (G := G) z47) (fun w57 fs58 g59 e60 o61 n62 hw63 n64 => ?_)
    have hs65 := ty_same_tr hs46 (n64 fz (hx_ok hfz (by decide)))
    have hf66 := hFF _ _ (n64 pr_ (by decide)) hf44
    refine ax_go 1 (y := (43, [some (.ref o), some (.int x4)], [.ref o], w57, 0, 0)) rfl trivial ?_
    refine hx_gf (l := 46) rfl rfl rfl g59 e60 ?_
    refine hx_k (l := 47) (m := (-1)) rfl rfl (by decide) (fun z67 h68 => ?_)
    refine hx_ic_eq (l := 50) rfl rfl (fun h69 => ?_) (fun h69 => ?_)
    · -- 57
      refine ax_go 1 (y := (58, [some (.ref o), some (.int x4)], [.ref o], w57, 0, 0)) rfl trivial ?_
      refine hx_gf (l := 61) rfl rfl rfl g59 ((o61 1 (by decide)).trans ((hx_kf m45 (hx_mem hG0 (by decide)) g12 g52).trans e22)) ?_
      obtain ⟨p70, e71, hG72⟩ := hx_fr (k := 10) (s := 16) q56 rfl
      refine hx_gf (l := 64) rfl rfl rfl ((n62 _ (hx_ne hG23 hG0 (by decide))).trans g55) e71 ?_
      refine ax_go 1 (y := (65, [some (.ref o), some (.int x4)], [.ref o, .ref p70], w57, 0, 0)) rfl trivial ?_
      refine hx_gf (l := 68) rfl rfl rfl g59 ((o61 1 (by decide)).trans ((hx_kf m45 (hx_mem hG0 (by decide)) g12 g52).trans e22)) ?_
      refine hx_gf (l := 71) rfl rfl rfl ((n62 _ (hx_ne hG23 hG0 (by decide))).trans g55) ((hx_kf m45 (hx_mem hG23 (by decide)) g25 g55).trans e28) ?_
      refine ax_go 1 (y := (72, [some (.ref o), some (.int x4)], [.ref o, .int x27, .ref p70], w57, 0, 0)) rfl trivial ?_
      refine hx_gf (l := 75) rfl rfl rfl g59 ((o61 10 (by decide)).trans ((hx_kf m45 (hx_mem hG0 (by decide)) g12 g52).trans e35)) ?_
      obtain ⟨fs73, g74, -, q75⟩ := hx_obj hw63 hG36 (s := 8) rfl (by decide)
      obtain ⟨p76, e77, hG78⟩ := hx_fr (k := 1) (s := 9) q75 rfl
      refine hx_gf (l := 78) rfl rfl rfl g74 e77 ?_
      exact hQ1 _ x4 x27 z8 p76 p70 p21 hw63 hf66 hs65 hG78 hG72 hG23 ⟨by omega, by omega⟩ ⟨_, g59, ((o61 1 (by decide)).trans ((hx_kf m45 (hx_mem hG0 (by decide)) g12 g52).trans e22))⟩ ⟨_, ((n62 _ (hx_ne hG23 hG0 (by decide))).trans g55), ((hx_kf m45 (hx_mem hG23 (by decide)) g25 g55).trans e28)⟩ ⟨_, g59, ((o61 0 (by decide)).trans ((hx_kf m45 (hx_mem hG0 (by decide)) g12 g52).trans e13))⟩ (by omega)
    · -- 50
      refine ax_go 1 (y := (51, [some (.ref o), some (.int x4)], [.ref o], w57, 0, 0)) rfl trivial ?_
      refine hx_k (l := 53) (m := (-6)) rfl rfl (by decide) (fun z79 h80 => ?_)
      refine hx_ci (l := 56) (as := [.ref o, .int z79]) rfl rfl (hx_iv (j := 115) (n := 1) (o := o) (r := []) rfl rfl g59 rfl) (cc_X8_settle_0 (fz := ([(1, 0)] ++ fz)) hFF  (hx_app (by decide +kernel) (fun q hq => (by decide +kernel : ∀ q ∈ fb_hq_law_pre, q ∈ fr_X8_settle_0) q (hfz q hq))) (d + 44)) hw63 hf66 ⟨(hx_tr (G := G) (s := 1) (b := 0) hG0 (by decide)), (ck_top_ok (G := G) z79), trivial⟩ (fun w81 z86 hw82 hf83 m84 a87 b88 u89 => ?_)
      have hs85 := ty_same_tr hs65 (hx_sapp m84)
      obtain ⟨fs90, g91, -, q92⟩ := hx_obj hw82 hG0 (s := 1) rfl (by decide)
      exact ax_ret rfl rfl trivial (hQ0 _ _ _ hw82 hf83 hs85 ⟨_, g91, ((hx_kf m84 (hx_mem hG0 (by decide)) g59 g91).trans ((o61 0 (by decide)).trans ((hx_kf m45 (hx_mem hG0 (by decide)) g12 g52).trans e13)))⟩ (by omega))
  · -- 22
    refine ax_go 1 (y := (23, [some (.ref o), some (.int x4)], [.ref o], w10, 0, 0)) rfl trivial ?_
    refine hx_k (l := 25) (m := (-5)) rfl rfl (by decide) (fun z93 h94 => ?_)
    refine hx_ci (l := 28) (as := [.ref o, .int z93]) rfl rfl (hx_iv (j := 115) (n := 1) (o := o) (r := []) rfl rfl g12 rfl) (cc_X8_settle_0 (fz := ([(1, 0)] ++ fz)) hFF  (hx_app (by decide +kernel) (fun q hq => (by decide +kernel : ∀ q ∈ fb_hq_law_pre, q ∈ fr_X8_settle_0) q (hfz q hq))) (d + 44)) hw16 hf19 ⟨(hx_tr (G := G) (s := 1) (b := 0) hG0 (by decide)), (ck_top_ok (G := G) z93), trivial⟩ (fun w95 z100 hw96 hf97 m98 a101 b102 u103 => ?_)
    have hs99 := ty_same_tr hs18 (hx_sapp m98)
    obtain ⟨fs104, g105, -, q106⟩ := hx_obj hw96 hG0 (s := 1) rfl (by decide)
    exact ax_ret rfl rfl trivial (hQ0 _ _ _ hw96 hf97 hs99 ⟨_, g105, ((hx_kf m98 (hx_mem hG0 (by decide)) g12 g105).trans e13)⟩ (by omega))
def fb_hq_law_tail : List (Nat × Nat) := [(8, 3), (8, 5), (19, 999), (32, 999), (33, 999), (34, 999), (35, 999), (44, 999), (45, 999), (1, 0), (18, 999), (2, 11), (2, 14), (1, 15), (54, 11), (4, 2), (7, 9), (30, 13), (30, 34), (30, 2), (30, 22), (30, 23), (30, 24), (30, 25), (46, 999), (47, 999), (30, 35), (30, 36), (7, 0), (24, 999), (37, 999), (30, 4), (30, 5), (30, 6), (30, 8), (30, 9), (30, 10), (30, 11), (30, 14), (30, 15), (30, 16), (30, 17), (30, 18), (30, 19), (30, 20), (30, 21), (39, 999), (40, 999), (41, 999), (30, 30), (30, 42), (30, 43), (30, 44), (1, 1), (1, 3), (1, 10), (1, 13), (8, 0), (30, 49), (8, 1)]
set_option maxHeartbeats 8000000 in
theorem hq_law_tail {ro : ab_R} {G : Nat → Nat} {fz : List (Nat × Nat)} {F : ab_W → Prop} (hF : ∀ w w', ty_same G pr5 w w' → F w → F w') (hfz : ∀ q ∈ fz, q ∈ fb_hq_law_tail) (d : Nat) {Q : ab_O → Prop} {o q lws la : Nat} {ln lm b : Int32} {w : ab_W} (hw : ty_w sp_ G w) (hf : (F5 G F) w) (hG0 : G o = 1) (hGq : G q = 10) (hGl : G lws = 16) (hGa : G la = 2) (hlm : 0 ≤ lm.toInt ∧ lm.toInt ≤ 5) (hla : hx_has w o 8 1 (.ref la)) (hlb : hx_has w la 1 15 (.int lm)) (hbb : hx_has w o 8 0 (.int b)) (hb0 : b.toInt = 0) (hQ0 : ∀ (z b : Int32) (w1 : ab_W), ty_w sp_ G w1 → (F5 G F) w1 → ty_same G fz w w1 → hx_has w1 o 8 0 (.int b) → b.toInt = 0 → Q (some (.int z), w1, 0, 0))  : ab_wp ro (ab_Ev ro ab_codes (d + 45)) 8 false (some .int) ab_k_X8_law Q (81, [some (.ref o), some (.int ln)], [.ref q, .int lm, .ref lws], w, 0, 0) := by
  have hFF := F5_same hF
  obtain ⟨fs1, g1, e1⟩ := hla
  obtain ⟨fs2, g2, e2⟩ := hlb
  obtain ⟨fs3, g3, e3⟩ := hbb
  obtain rfl := hx_inj g1 g3
  obtain ⟨hlm0, hlm1⟩ := hlm
  change ab_wp ro (ab_Ev ro ab_codes (d + 45)) 8 false (some .int) ab_k_X8_law Q (81, [some (.ref o), some (.int ln)], [.ref q, .int lm, .ref lws], w, 0, 0)
  refine hx_as16 (l := 82) rfl rfl hw hGl hGq (by omega) (by omega) (fun w1 n2 hw3 n4 => ?_)
  have hs5 := ty_same_tr (ty_same_rf w) (n4 fz (hx_ok hfz (by decide)))
  have hf6 := hFF _ _ (n4 pr_ (by decide)) hf
  refine ax_go 1 (y := (83, [some (.ref o), some (.int ln)], [.ref o], w1, 0, 0)) rfl trivial ?_
  refine hx_gf (l := 86) rfl rfl rfl ((n2 _ (hx_ne hG0 hGl (by decide))).trans g1) e1 ?_
  refine ax_go 1 (y := (87, [some (.ref o), some (.int ln)], [.ref la, .ref la], w1, 0, 0)) rfl trivial ?_
  refine hx_gf (l := 90) rfl rfl rfl ((n2 _ (hx_ne hGa hGl (by decide))).trans g2) e2 ?_
  refine hx_k (l := 91) (m := 1) rfl rfl (by decide) (fun z7 h8 => ?_)
  refine hx_add (l := 92) rfl rfl (fun z9 h10 => ?_)
  replace h10 := h10 (by omega) (by omega)
  refine hx_pf (q := (0, 0, 0, 0, 0, 6)) (s := 2) (l := 95) (v := .int z9) rfl rfl rfl (by decide) rfl rfl rfl hw3 hGa ((n2 _ (hx_ne hGa hGl (by decide))).trans g2) trivial (hx_ti (G := G) (lo := 0) (hi := 6) (by omega) (by omega)) (fun w11 fs12 g13 e14 o15 n16 hw17 n18 => ?_)
  have hs19 := ty_same_tr hs5 (n18 fz (hx_ok hfz (by decide)))
  have hf20 := hFF _ _ (n18 pr_ (by decide)) hf6
  refine ax_go 2 (y := (97, [some (.ref o), some (.int ln)], [.ref o, .ref o], w11, 0, 0)) rfl trivial ?_
  refine hx_gf (l := 100) rfl rfl rfl ((n16 _ (hx_ne hG0 hGa (by decide))).trans ((n2 _ (hx_ne hG0 hGl (by decide))).trans g1)) e1 ?_
  refine hx_gf (l := 103) rfl rfl rfl g13 e14 ?_
  refine hx_k (l := 104) (m := 1) rfl rfl (by decide) (fun z21 h22 => ?_)
  refine hx_sub (l := 105) rfl rfl (fun z23 h24 => ?_)
  replace h24 := h24 (by omega) (by omega)
  refine hx_ci (l := 108) (as := [.ref o, .int z23]) rfl rfl (hx_iv (j := 115) (n := 1) (o := o) (r := []) rfl rfl ((n16 _ (hx_ne hG0 hGa (by decide))).trans ((n2 _ (hx_ne hG0 hGl (by decide))).trans g1)) rfl) (cc_X8_settle_0 (fz := ([(1, 0)] ++ fz)) hFF  (hx_app (by decide +kernel) (fun q hq => (by decide +kernel : ∀ q ∈ fb_hq_law_tail, q ∈ fr_X8_settle_0) q (hfz q hq))) (d + 44)) hw17 hf20 ⟨(hx_tr (G := G) (s := 1) (b := 0) hG0 (by decide)), (ck_top_ok (G := G) z23), trivial⟩ (fun w25 z30 hw26 hf27 m28 a31 b32 u33 => ?_)
  have hs29 := ty_same_tr hs19 (hx_sapp m28)
  obtain ⟨fs34, g35, -, q36⟩ := hx_obj hw26 hG0 (s := 1) rfl (by decide)
  exact ax_ret rfl rfl trivial (hQ0 _ _ _ hw26 hf27 hs29 ⟨_, g35, ((hx_kf m28 (hx_mem hG0 (by decide)) ((n16 _ (hx_ne hG0 hGa (by decide))).trans ((n2 _ (hx_ne hG0 hGl (by decide))).trans g1)) g35).trans e3)⟩ (by omega))
