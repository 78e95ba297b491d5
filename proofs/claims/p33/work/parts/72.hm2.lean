/-! walks by program: the reference -/
def fb_hp_X9_isTerm : List (Nat × Nat) := [(8, 3), (8, 5), (19, 999), (32, 999), (33, 999), (34, 999), (35, 999), (44, 999), (45, 999), (1, 0), (18, 999), (2, 11), (2, 14), (1, 15), (54, 11), (4, 2), (7, 9), (30, 13), (30, 34), (30, 2), (30, 22), (30, 23), (30, 24), (30, 25), (46, 999), (47, 999), (30, 35), (30, 36), (7, 0), (24, 999), (37, 999), (30, 4), (30, 5), (30, 6), (30, 8), (30, 9), (30, 10), (30, 11), (30, 14), (30, 15), (30, 16), (30, 17), (30, 18), (30, 19), (30, 20), (30, 21), (39, 999), (40, 999), (41, 999), (30, 30), (30, 42), (30, 43), (30, 44), (1, 1), (1, 3), (1, 10), (1, 13), (8, 0), (30, 49), (2, 15), (8, 1)]
set_option maxHeartbeats 8000000 in
theorem hp_X9_isTerm {ro : ab_R} {G : Nat → Nat} {fz : List (Nat × Nat)} {F : ab_W → Prop} (hF : ∀ w w', smt G w w' → F w → F w') (hfz : ∀ q ∈ fz, q ∈ fb_hp_X9_isTerm) (d : Nat) : hx_ct ro sp_ G (F9 G F) fz (ab_Ev ro ab_codes (d + 2)) 140 [(0, (-2147483648), 2147483647), (0, (-2147483648), 2147483647)] (some (0, 0, 1)) (fun _ _ => True) (fun as w v w1 => w1 = w ∧ ∀ wh vl z : Int32, as = [.int wh, .int vl] → v = some (.int z) → z.toInt ≠ 0 → (wh.toInt = 0 ∧ 0 ≤ vl.toInt ∧ vl.toInt ≤ 999) ∨ (wh.toInt = 1 ∧ 2 ≤ vl.toInt ∧ vl.toInt ≤ 99) ∨ (wh.toInt = 2 ∧ 0 ≤ vl.toInt ∧ vl.toInt ≤ 10) ∨ (wh.toInt = 3 ∧ 0 ≤ vl.toInt ∧ vl.toInt ≤ 9)) := by
  have hFF := F9_same hF
  refine hx_hand (d := d + 1) (by decide) (fun as w hw hf has hP => ?_)
  match as, has with
  | [v0, v1], ⟨h0, h1, _⟩ =>
    obtain ⟨wh, rfl, hl0, hh0⟩ := ty_int h0 rfl
    replace hl0 : ((-2147483648) : Int) ≤ wh.toInt := hl0
    replace hh0 : wh.toInt ≤ 2147483647 := hh0
    obtain ⟨vl, rfl, hl1, hh1⟩ := ty_int h1 rfl
    replace hl1 : ((-2147483648) : Int) ≤ vl.toInt := hl1
    replace hh1 : vl.toInt ≤ 2147483647 := hh1
    refine ⟨rfl, ?_⟩
    change ab_wp ro (ab_Ev ro ab_codes (d + 1)) 9 false (some .boolean) ab_k_X9_isTerm (fun o_1 => ∃ v w1, o_1 = (v, w1, 0, 0) ∧ ty_w sp_ G w1 ∧ (F9 G F) w1 ∧ ty_same G fz w w1 ∧ ck_res G (some (0, 0, 1)) v ∧ (fun as w v w1 => w1 = w ∧ ∀ wh vl z : Int32, as = [.int wh, .int vl] → v = some (.int z) → z.toInt ≠ 0 → (wh.toInt = 0 ∧ 0 ≤ vl.toInt ∧ vl.toInt ≤ 999) ∨ (wh.toInt = 1 ∧ 2 ≤ vl.toInt ∧ vl.toInt ≤ 99) ∨ (wh.toInt = 2 ∧ 0 ≤ vl.toInt ∧ vl.toInt ≤ 10) ∨ (wh.toInt = 3 ∧ 0 ≤ vl.toInt ∧ vl.toInt ≤ 9)) ([.int wh, .int vl] : List Value) w v w1) (0, [some (.int wh), some (.int vl)], [], w, 0, 0)
    refine ax_go 1 (y := (1, [some (.int wh), some (.int vl)], [.int wh], w, 0, 0)) rfl trivial ?_
    by_cases h1 : wh.toInt = 0
    · -- case
      refine hx_tsq (l := 32) 0 rfl rfl (by decide) (by decide) rfl (by omega) (by omega) ?_
      refine ax_go 1 (y := (33, [some (.int wh), some (.int vl)], [.int vl], w, 0, 0)) rfl trivial ?_
      refine hx_k (l := 34) (m := 0) rfl rfl (by decide) (fun z2 h3 => ?_)
      refine hx_k (l := 37) (m := 999) rfl rfl (by decide) (fun z4 h5 => ?_)
      refine hx_pi (l := 40) (as := [.int vl, .int z2, .int z4]) rfl rfl rfl (hp_X9_lies (fz := fz) hFF (fun q hq => (by decide +kernel : ∀ q ∈ fb_hp_X9_isTerm, q ∈ fb_hp_X9_lies) q (hfz q hq)) (d + 0)) hw hf ⟨(ck_top_ok (G := G) vl), (ck_top_ok (G := G) z2), (ck_top_ok (G := G) z4), trivial⟩ trivial (fun w6 z11 hw7 hf8 m9 a12 b13 u14 => ?_)
      rw [u14.1]
      have u15 := u14.2 _ _ _ _ rfl rfl
      clear u14
      exact ax_ret rfl rfl ⟨hx_01 (by omega) (by omega), trivial⟩ ⟨some (.int z11), _, rfl, hw, hf, (ty_same_rf w), (hx_ti (G := G) (lo := 0) (hi := 1) (by omega) (by omega)), ⟨rfl, fun p1 q1 z1 h1 h2 hz => by cases h1; cases h2; omega⟩⟩
    by_cases h16 : wh.toInt = 1
    · -- case
      refine hx_tsq (l := 41) 1 rfl rfl (by decide) (by decide) rfl (by omega) (by omega) ?_
      refine ax_go 1 (y := (42, [some (.int wh), some (.int vl)], [.int vl], w, 0, 0)) rfl trivial ?_
      refine hx_k (l := 43) (m := 2) rfl rfl (by decide) (fun z17 h18 => ?_)
      refine hx_k (l := 45) (m := 99) rfl rfl (by decide) (fun z19 h20 => ?_)
      refine hx_pi (l := 48) (as := [.int vl, .int z17, .int z19]) rfl rfl rfl (hp_X9_lies (fz := fz) hFF (fun q hq => (by decide +kernel : ∀ q ∈ fb_hp_X9_isTerm, q ∈ fb_hp_X9_lies) q (hfz q hq)) (d + 0)) hw hf ⟨(ck_top_ok (G := G) vl), (ck_top_ok (G := G) z17), (ck_top_ok (G := G) z19), trivial⟩ trivial (fun w21 z26 hw22 hf23 m24 a27 b28 u29 => ?_)
      rw [u29.1]
      have u30 := u29.2 _ _ _ _ rfl rfl
      clear u29
      exact ax_ret rfl rfl ⟨hx_01 (by omega) (by omega), trivial⟩ ⟨some (.int z26), _, rfl, hw, hf, (ty_same_rf w), (hx_ti (G := G) (lo := 0) (hi := 1) (by omega) (by omega)), ⟨rfl, fun p1 q1 z1 h1 h2 hz => by cases h1; cases h2; omega⟩⟩
    by_cases h31 : wh.toInt = 2
    · -- case
      refine hx_tsq (l := 49) 2 rfl rfl (by decide) (by decide) rfl (by omega) (by omega) ?_
      refine ax_go 1 (y := (50, [some (.int wh), some (.int vl)], [.int vl], w, 0, 0)) rfl trivial ?_
      refine hx_k (l := 51) (m := 0) rfl rfl (by decide) (fun z32 h33 => ?_)
      refine hx_k (l := 53) (m := 10) rfl rfl (by decide) (fun z34 h35 => ?_)
      refine hx_pi (l := 56) (as := [.int vl, .int z32, .int z34]) rfl rfl rfl (hp_X9_lies (fz := fz) hFF (fun q hq => (by decide +kernel : ∀ q ∈ fb_hp_X9_isTerm, q ∈ fb_hp_X9_lies) q (hfz q hq)) (d + 0)) hw hf ⟨(ck_top_ok (G := G) vl), (ck_top_ok (G := G) z32), (ck_top_ok (G := G) z34), trivial⟩ trivial (fun w36 z41 hw37 hf38 m39 a42 b43 u44 => ?_)
      rw [u44.1]
      have u45 := u44.2 _ _ _ _ rfl rfl
      clear u44
      exact ax_ret rfl rfl ⟨hx_01 (by omega) (by omega), trivial⟩ ⟨some (.int z41), _, rfl, hw, hf, (ty_same_rf w), (hx_ti (G := G) (lo := 0) (hi := 1) (by omega) (by omega)), ⟨rfl, fun p1 q1 z1 h1 h2 hz => by cases h1; cases h2; omega⟩⟩
    by_cases h46 : wh.toInt = 3
    · -- case
      refine hx_tsq (l := 57) 3 rfl rfl (by decide) (by decide) rfl (by omega) (by omega) ?_
      refine ax_go 1 (y := (58, [some (.int wh), some (.int vl)], [.int vl], w, 0, 0)) rfl trivial ?_
      refine hx_k (l := 59) (m := 0) rfl rfl (by decide) (fun z47 h48 => ?_)
      refine hx_k (l := 61) (m := 9) rfl rfl (by decide) (fun z49 h50 => ?_)
      refine hx_pi (l := 64) (as := [.int vl, .int z47, .int z49]) rfl rfl rfl (hp_X9_lies (fz := fz) hFF (fun q hq => (by decide +kernel : ∀ q ∈ fb_hp_X9_isTerm, q ∈ fb_hp_X9_lies) q (hfz q hq)) (d + 0)) hw hf ⟨(ck_top_ok (G := G) vl), (ck_top_ok (G := G) z47), (ck_top_ok (G := G) z49), trivial⟩ trivial (fun w51 z56 hw52 hf53 m54 a57 b58 u59 => ?_)
      rw [u59.1]
      have u60 := u59.2 _ _ _ _ rfl rfl
      clear u59
      exact ax_ret rfl rfl ⟨hx_01 (by omega) (by omega), trivial⟩ ⟨some (.int z56), _, rfl, hw, hf, (ty_same_rf w), (hx_ti (G := G) (lo := 0) (hi := 1) (by omega) (by omega)), ⟨rfl, fun p1 q1 z1 h1 h2 hz => by cases h1; cases h2; omega⟩⟩
    refine hx_tsd (l := 65) rfl (by decide) rfl (by omega) ?_
    refine hx_k (l := 66) (m := 0) rfl rfl (by decide) (fun z61 h62 => ?_)
    exact ax_ret rfl rfl ⟨hx_01 (by omega) (by omega), trivial⟩ ⟨some (.int z61), _, rfl, hw, hf, (ty_same_rf w), (hx_ti (G := G) (lo := 0) (hi := 1) (by omega) (by omega)), ⟨rfl, fun p1 q1 z1 h1 h2 hz => by cases h1; cases h2; omega⟩⟩
def fb_X9_terms : List (Nat × Nat) := [(8, 3), (8, 5), (19, 999), (33, 999), (34, 999), (35, 999), (44, 999), (45, 999), (1, 0), (18, 999), (2, 11), (2, 14), (1, 15), (54, 11), (4, 2), (7, 9), (30, 13), (30, 2), (30, 22), (30, 23), (30, 24), (30, 25), (46, 999), (47, 999), (30, 35), (30, 36), (7, 0), (24, 999), (37, 999), (30, 4), (30, 5), (30, 6), (30, 8), (30, 9), (30, 10), (30, 11), (30, 14), (30, 15), (30, 16), (30, 17), (30, 18), (30, 19), (30, 20), (30, 21), (39, 999), (40, 999), (41, 999), (30, 30), (30, 42), (30, 43), (30, 44), (1, 1), (1, 3), (1, 10), (1, 13), (8, 0), (30, 49), (2, 15), (8, 1)]
set_option maxHeartbeats 8000000 in
theorem h_X9_terms {ro : ab_R} {G : Nat → Nat} {fz : List (Nat × Nat)} {F : ab_W → Prop} (hF : ∀ w w', smt G w w' → F w → F w') (hfz : ∀ q ∈ fz, q ∈ fb_X9_terms) (d : Nat) : ck_ct ro sp_ G (F9 G F) fz (ab_Ev ro ab_codes (d + 3)) 141 [(2, 30, 0), (0, (-2147483648), 2147483647), (0, (-2147483648), 2147483647)] (some (0, (-2147483648), 2147483647)) 0 0 := by
  have hFF := F9_same hF
  refine ck_hand (d := d + 2) (by decide) (fun as w hw hf has => ?_)
  match as, has with
  | [v0, v1, v2], ⟨h0, h1, h2, _⟩ =>
    obtain ⟨o, rfl, _, hG0⟩ := ty_refn h0 rfl rfl
    replace hG0 : G o = 30 := hG0
    obtain ⟨wh, rfl, hl1, hh1⟩ := ty_int h1 rfl
    replace hl1 : ((-2147483648) : Int) ≤ wh.toInt := hl1
    replace hh1 : wh.toInt ≤ 2147483647 := hh1
    obtain ⟨vl, rfl, hl2, hh2⟩ := ty_int h2 rfl
    replace hl2 : ((-2147483648) : Int) ≤ vl.toInt := hl2
    replace hh2 : vl.toInt ≤ 2147483647 := hh2
    refine ⟨rfl, ?_⟩
    change ab_wp ro (ab_Ev ro ab_codes (d + 2)) 9 false (some .int) ab_k_X9_terms (fun o_1 => ∃ v w1, o_1 = (v, w1, 0, 0) ∧ ty_w sp_ G w1 ∧ (F9 G F) w1 ∧ ty_same G fz w w1 ∧ ck_res G (some (0, (-2147483648), 2147483647)) v ∧ ck_wit 0 0 [.ref o, .int wh, .int vl] v) (0, [some (.ref o), some (.int wh), some (.int vl), none, none], [], w, 0, 0)
    refine ax_go 2 (y := (2, [some (.ref o), some (.int wh), some (.int vl), none, none], [.int vl, .int wh], w, 0, 0)) rfl trivial ?_
    refine hx_pi (l := 5) (as := [.int wh, .int vl]) rfl rfl rfl (hp_X9_isTerm (fz := fz) hF (fun q hq => (by decide +kernel : ∀ q ∈ fb_X9_terms, q ∈ fb_hp_X9_isTerm) q (hfz q hq)) (d + 0)) hw hf ⟨(ck_top_ok (G := G) wh), (ck_top_ok (G := G) vl), trivial⟩ trivial (fun w1 z6 hw2 hf3 m4 a7 b8 u9 => ?_)
    rw [u9.1]
    have u10 := u9.2 _ _ _ rfl rfl
    refine hx_if_ne (l := 8) rfl rfl (fun h11 => ?_) (fun h11 => ?_)
    · -- 14
      refine ax_go 1 (y := (15, [some (.ref o), some (.int wh), some (.int vl), none, none], [.int wh], w, 0, 0)) rfl trivial ?_
      refine hx_if_ne (l := 18) rfl rfl (fun h12 => ?_) (fun h12 => ?_)
      · -- 23
        refine hx_k (l := 25) (m := 107) rfl rfl (by decide) (fun z13 h14 => ?_)
        refine ax_go 1 (y := (26, [some (.ref o), some (.int wh), some (.int vl), none, none], [.int wh, .int z13], w, 0, 0)) rfl trivial ?_
        refine hx_add (l := 27) rfl rfl (fun z15 h16 => ?_)
        replace h16 := h16 (by omega) (by omega)
        refine hx_k (l := 28) (m := 1) rfl rfl (by decide) (fun z17 h18 => ?_)
        refine hx_sub (l := 29) rfl rfl (fun z19 h20 => ?_)
        replace h20 := h20 (by omega) (by omega)
        refine ax_go 2 (y := (31, [some (.ref o), some (.int wh), some (.int vl), some (.int z19), none], [.ref o], w, 0, 0)) rfl trivial ?_
        obtain ⟨fs21, g22, -, q23⟩ := hx_obj hw hG0 (s := 30) rfl (by decide)
        obtain ⟨p24, e25, hG26⟩ := hx_fr (k := 2) (s := 32) q23 rfl
        refine hx_gf (l := 34) rfl rfl rfl g22 e25 ?_
        refine ax_go 1 (y := (35, [some (.ref o), some (.int wh), some (.int vl), some (.int z19), none], [.int z19, .ref p24], w, 0, 0)) rfl trivial ?_
        obtain ⟨f27, g28, r29⟩ := hx_row hw hG26 (s := 32) (kd := 0) (n := 5721) rfl (by decide)
        refine hx_il (l := 36) rfl rfl g28 (by omega) (by omega) (fun z30 h31 => ?_)
        refine ax_go 2 (y := (39, [some (.ref o), some (.int wh), some (.int vl), some (.int z19), some (.int z30)], [.ref o], w, 0, 0)) rfl trivial ?_
        refine hx_gf (l := 42) rfl rfl rfl g22 e25 ?_
        refine ax_go 2 (y := (44, [some (.ref o), some (.int wh), some (.int vl), some (.int z19), some (.int z30)], [.int vl, .int z19, .ref p24], w, 0, 0)) rfl trivial ?_
        refine hx_is (s := 32) (l := 45) rfl rfl rfl hw hG26 g28 (by omega) (by omega) (hx_sg1 (fun _ _ _ => ⟨by omega, by omega⟩) (hx_sg1 (fun _ _ _ => ⟨by omega, by omega⟩) (hx_sg1 (fun _ _ _ => ⟨by omega, by omega⟩) (hx_sg1 (fun _ _ _ => ⟨by omega, by omega⟩) (hx_sg1 (fun _ _ _ => ⟨by omega, by omega⟩) (hx_sg1 (fun _ _ _ => ⟨by omega, by omega⟩) (hx_sg1 (fun _ _ _ => ⟨by omega, by omega⟩) (hx_sg1 (fun _ _ _ => ⟨by omega, by omega⟩) (hx_sg1 (fun _ _ _ => ⟨by omega, by omega⟩) hx_sg0))))))))) (fun w32 f33 g34 e35 o36 n37 hw38 n39 => ?_)
        have hs40 := ty_same_tr (ty_same_rf w) (n39 fz (hx_ok hfz (by decide)))
        have kp42 := hf.1.1 _ _ hG26 g28
        have kq43 : kb z19.toInt.toNat vl.toInt := ⟨⟨fun _ => by omega, fun _ _ _ => by omega, fun _ _ _ => by omega, fun _ => by omega⟩, fun _ _ => by omega, fun _ _ _ => by omega, fun _ => by omega, fun _ => by omega, fun _ => by omega, fun _ => by omega, fun _ => by omega, fun _ _ => by omega⟩
        have hf41 : F9 G F w32 := ⟨FM_k hf.1 hG26 g34 n37 (KP_up kp42 o36 (by rw [e35]; exact kq43) (by omega)), hF _ _ (smt_k (n39 prM (by decide)) g28 g34 n37 (fun j hj => o36 j (by omega))) hf.2⟩
        refine ax_go 2 (y := (48, [some (.ref o), some (.int wh), some (.int vl), some (.int z19), some (.int z30)], [.int z30, .ref o], w32, 0, 0)) rfl trivial ?_
        refine hx_ci (l := 51) (as := [.ref o, .int z30]) rfl rfl (hx_iv (j := 126) (n := 1) (o := o) (r := []) rfl rfl ((n37 _ (hx_ne hG0 hG26 (by decide))).trans g22) rfl) (h_X9_settled (fz := fz) hF (fun q hq => (by decide +kernel : ∀ q ∈ fb_X9_terms, q ∈ fb_X9_settled) q (hfz q hq)) (d + 0)) hw38 hf41 ⟨(hx_tr (G := G) (s := 30) (b := 0) hG0 (by decide)), (ck_top_ok (G := G) z30), trivial⟩ (fun w44 z49 hw45 hf46 m47 a50 b51 u52 => ?_)
        have hs48 := ty_same_tr hs40 m47
        exact ax_ret rfl rfl trivial ⟨some (.int z49), _, rfl, hw45, hf46, hs48, (ck_top_ok (G := G) z49), trivial⟩
      · -- 18
        refine hx_k (l := 20) (m := 70) rfl rfl (by decide) (fun z53 h54 => ?_)
        refine ax_go 3 (y := (31, [some (.ref o), some (.int wh), some (.int vl), some (.int z53), none], [.ref o], w, 0, 0)) rfl trivial ?_
        obtain ⟨fs55, g56, -, q57⟩ := hx_obj hw hG0 (s := 30) rfl (by decide)
        obtain ⟨p58, e59, hG60⟩ := hx_fr (k := 2) (s := 32) q57 rfl
        refine hx_gf (l := 34) rfl rfl rfl g56 e59 ?_
        refine ax_go 1 (y := (35, [some (.ref o), some (.int wh), some (.int vl), some (.int z53), none], [.int z53, .ref p58], w, 0, 0)) rfl trivial ?_
        obtain ⟨f61, g62, r63⟩ := hx_row hw hG60 (s := 32) (kd := 0) (n := 5721) rfl (by decide)
        refine hx_il (l := 36) rfl rfl g62 (by omega) (by omega) (fun z64 h65 => ?_)
        refine ax_go 2 (y := (39, [some (.ref o), some (.int wh), some (.int vl), some (.int z53), some (.int z64)], [.ref o], w, 0, 0)) rfl trivial ?_
        refine hx_gf (l := 42) rfl rfl rfl g56 e59 ?_
        refine ax_go 2 (y := (44, [some (.ref o), some (.int wh), some (.int vl), some (.int z53), some (.int z64)], [.int vl, .int z53, .ref p58], w, 0, 0)) rfl trivial ?_
        refine hx_is (s := 32) (l := 45) rfl rfl rfl hw hG60 g62 (by omega) (by omega) (hx_sg1 (fun _ _ _ => ⟨by omega, by omega⟩) (hx_sg1 (fun _ _ _ => ⟨by omega, by omega⟩) (hx_sg1 (fun _ _ _ => ⟨by omega, by omega⟩) (hx_sg1 (fun _ _ _ => ⟨by omega, by omega⟩) (hx_sg1 (fun _ _ _ => ⟨by omega, by omega⟩) (hx_sg1 (fun _ _ _ => ⟨by omega, by omega⟩) (hx_sg1 (fun _ _ _ => ⟨by omega, by omega⟩) (hx_sg1 (fun _ _ _ => ⟨by omega, by omega⟩) (hx_sg1 (fun _ _ _ => ⟨by omega, by omega⟩) hx_sg0))))))))) (fun w66 f67 g68 e69 o70 n71 hw72 n73 => ?_)
        have hs74 := ty_same_tr (ty_same_rf w) (n73 fz (hx_ok hfz (by decide)))
        have kp76 := hf.1.1 _ _ hG60 g62
        have kq77 : kb z53.toInt.toNat vl.toInt := ⟨⟨fun _ => by omega, fun _ _ _ => by omega, fun _ _ _ => by omega, fun _ => by omega⟩, fun _ _ => by omega, fun _ _ _ => by omega, fun _ => by omega, fun _ => by omega, fun _ => by omega, fun _ => by omega, fun _ => by omega, fun _ _ => by omega⟩
        have hf75 : F9 G F w66 := ⟨FM_k hf.1 hG60 g68 n71 (KP_up kp76 o70 (by rw [e69]; exact kq77) (by omega)), hF _ _ (smt_k (n73 prM (by decide)) g62 g68 n71 (fun j hj => o70 j (by omega))) hf.2⟩
        refine ax_go 2 (y := (48, [some (.ref o), some (.int wh), some (.int vl), some (.int z53), some (.int z64)], [.int z64, .ref o], w66, 0, 0)) rfl trivial ?_
        refine hx_ci (l := 51) (as := [.ref o, .int z64]) rfl rfl (hx_iv (j := 126) (n := 1) (o := o) (r := []) rfl rfl ((n71 _ (hx_ne hG0 hG60 (by decide))).trans g56) rfl) (h_X9_settled (fz := fz) hF (fun q hq => (by decide +kernel : ∀ q ∈ fb_X9_terms, q ∈ fb_X9_settled) q (hfz q hq)) (d + 0)) hw72 hf75 ⟨(hx_tr (G := G) (s := 30) (b := 0) hG0 (by decide)), (ck_top_ok (G := G) z64), trivial⟩ (fun w78 z83 hw79 hf80 m81 a84 b85 u86 => ?_)
        have hs82 := ty_same_tr hs74 m81
        exact ax_ret rfl rfl trivial ⟨some (.int z83), _, rfl, hw79, hf80, hs82, (ck_top_ok (G := G) z83), trivial⟩
    · -- 8
      refine ax_go 1 (y := (9, [some (.ref o), some (.int wh), some (.int vl), none, none], [.ref o], w, 0, 0)) rfl trivial ?_
      refine hx_k (l := 10) (m := (-1)) rfl rfl (by decide) (fun z87 h88 => ?_)
      obtain ⟨fs89, g90, -, q91⟩ := hx_obj hw hG0 (s := 30) rfl (by decide)
      refine hx_ci (l := 13) (as := [.ref o, .int z87]) rfl rfl (hx_iv (j := 124) (n := 1) (o := o) (r := []) rfl rfl g90 rfl) (cc_X9_refuses_0 (fz := fz) hFF  (fun q hq => (by decide +kernel : ∀ q ∈ fb_X9_terms, q ∈ fr_X9_refuses_0) q (hfz q hq)) (d + 1)) hw hf ⟨(hx_tr (G := G) (s := 30) (b := 0) hG0 (by decide)), (hx_ti (G := G) (lo := (-6)) (hi := (-1)) (by omega) (by omega)), trivial⟩ (fun w92 z97 hw93 hf94 m95 a98 b99 u100 => ?_)
      have hs96 := ty_same_tr (ty_same_rf w) m95
      exact ax_ret rfl rfl trivial ⟨some (.int z97), _, rfl, hw93, hf94, hs96, (ck_top_ok (G := G) z97), trivial⟩
def fb_X9_isAllHeard : List (Nat × Nat) := [(8, 3), (8, 5), (19, 999), (32, 999), (33, 999), (34, 999), (35, 999), (44, 999), (45, 999), (1, 0), (18, 999), (2, 11), (2, 14), (1, 15), (54, 11), (4, 2), (7, 9), (30, 13), (30, 34), (30, 2), (30, 22), (30, 23), (30, 24), (30, 25), (46, 999), (47, 999), (30, 35), (30, 36), (7, 0), (24, 999), (37, 999), (30, 4), (30, 5), (30, 6), (30, 8), (30, 9), (30, 10), (30, 11), (30, 14), (30, 15), (30, 16), (30, 17), (30, 18), (30, 19), (30, 20), (30, 21), (39, 999), (40, 999), (41, 999), (30, 30), (30, 42), (30, 43), (30, 44), (1, 1), (1, 3), (1, 10), (1, 13), (8, 0), (30, 49), (2, 15), (8, 1)]
set_option maxHeartbeats 8000000 in
theorem h_X9_isAllHeard {ro : ab_R} {G : Nat → Nat} {fz : List (Nat × Nat)} {F : ab_W → Prop} (hF : ∀ w w', smt G w w' → F w → F w') (hfz : ∀ q ∈ fz, q ∈ fb_X9_isAllHeard) (d : Nat) : ck_ct ro sp_ G (F9 G F) fz (ab_Ev ro ab_codes (d + 1)) 220 [(2, 30, 0)] (some (0, 0, 1)) 0 0 := by
  have hFF := F9_same hF
  refine ck_hand (d := d + 0) (by decide) (fun as w hw hf has => ?_)
  match as, has with
  | [v0], ⟨h0, _⟩ =>
    obtain ⟨o, rfl, _, hG0⟩ := ty_refn h0 rfl rfl
    replace hG0 : G o = 30 := hG0
    refine ⟨rfl, ?_⟩
    have ct4 : ∀ (nq : Nat) (w1 : ab_W) (iz : Int32) (k : Int32), ty_w sp_ G w1 → (F9 G F) w1 → ty_same G fz w w1 → (0 ≤ iz.toInt) → (iz.toInt ≤ 1) → (0 ≤ k.toInt) → (k.toInt ≤ 8) → (9 - k.toInt).toNat < nq → ab_wp ro (ab_Ev ro ab_codes d) 9 false (some .boolean) ab_k_X9_isAllHeard (fun o_1 => ∃ v w1, o_1 = (v, w1, 0, 0) ∧ ty_w sp_ G w1 ∧ (F9 G F) w1 ∧ ty_same G fz w w1 ∧ ck_res G (some (0, 0, 1)) v ∧ ck_wit 0 0 [.ref o] v) (4, [some (.ref o), some (.int iz), some (.int k)], [], w1, 0, 0) := by
      intro nq
      induction nq with
      | zero => intro w1 iz k hw6 hf7 hs8 i2 i3 i4 i5 hm; exact absurd hm (Nat.not_lt_zero _)
      | succ nq ih4 =>
        intro w1 iz k hw6 hf7 hs8 i2 i3 i4 i5 hm4
        refine ax_go 2 (y := (6, [some (.ref o), some (.int iz), some (.int k)], [.ref o, .int k], w1, 0, 0)) rfl trivial ?_
        obtain ⟨fs9, g10, -, q11⟩ := hx_obj hw6 hG0 (s := 30) rfl (by decide)
        obtain ⟨p12, e13, hG14⟩ := hx_fr (k := 2) (s := 32) q11 rfl
        refine hx_gf (l := 9) rfl rfl rfl g10 e13 ?_
        refine hx_k (l := 11) (m := 111) rfl rfl (by decide) (fun z15 h16 => ?_)
        obtain ⟨f17, g18, r19⟩ := hx_row hw6 hG14 (s := 32) (kd := 0) (n := 5721) rfl (by decide)
        refine hx_il (l := 12) rfl rfl g18 (by omega) (by omega) (fun z20 h21 => ?_)
        have b22 := ((hf7.1.1 _ _ hG14 g18).1 z15.toInt.toNat (by omega)).2.2.2.2.2.1 (by omega)
        rw [← h21] at b22
        refine hx_ic_ge (l := 15) rfl rfl (fun h23 => ?_) (fun h23 => ?_)
        · -- 63
          refine ax_go 1 (y := (64, [some (.ref o), some (.int iz), some (.int k)], [.int iz], w1, 0, 0)) rfl trivial ?_
          exact ax_ret rfl rfl ⟨hx_01 (by omega) (by omega), trivial⟩ ⟨some (.int iz), _, rfl, hw6, hf7, hs8, (hx_ti (G := G) (lo := 0) (hi := 1) (by omega) (by omega)), trivial⟩
        · -- 15
          refine ax_go 1 (y := (16, [some (.ref o), some (.int iz), some (.int k)], [.int iz], w1, 0, 0)) rfl trivial ?_
          refine hx_if_eq (l := 19) rfl rfl (fun h24 => ?_) (fun h24 => ?_)
          · -- 55
            refine hx_k (l := 56) (m := 0) rfl rfl (by decide) (fun z25 h26 => ?_)
            refine ax_go 1 (y := (57, [some (.ref o), some (.int z25), some (.int k)], [], w1, 0, 0)) rfl trivial ?_
            refine hx_iinc (x := k) (n := 1) (l := 60) rfl rfl rfl (Nat.le_of_ble_eq_true rfl) (by omega) (by omega) (by decide) (fun z27 h28 => ?_)
            change ab_wp ro (ab_Ev ro ab_codes d) 9 false (some .boolean) ab_k_X9_isAllHeard (fun o_1 => ∃ v w1, o_1 = (v, w1, 0, 0) ∧ ty_w sp_ G w1 ∧ (F9 G F) w1 ∧ ty_same G fz w w1 ∧ ck_res G (some (0, 0, 1)) v ∧ ck_wit 0 0 [.ref o] v) (60, [some (.ref o), some (.int z25), some (.int z27)], [], w1, 0, 0)
            refine ax_go 1 (y := (4, [some (.ref o), some (.int z25), some (.int z27)], [], w1, 0, 0)) rfl trivial ?_
            exact ih4 w1 z25 z27 hw6 hf7 hs8 (by omega) (by omega) (by omega) (by omega) (by omega)
          · -- 19
            refine ax_go 1 (y := (20, [some (.ref o), some (.int iz), some (.int k)], [.ref o], w1, 0, 0)) rfl trivial ?_
            obtain ⟨p29, e30, hG31⟩ := hx_fr (k := 36) (s := 47) q11 rfl
            refine hx_gf (l := 23) rfl rfl rfl g10 e30 ?_
            refine ax_go 1 (y := (24, [some (.ref o), some (.int iz), some (.int k)], [.ref o, .ref p29], w1, 0, 0)) rfl trivial ?_
            refine hx_gf (l := 27) rfl rfl rfl g10 e13 ?_
            refine hx_k (l := 29) (m := 91) rfl rfl (by decide) (fun z32 h33 => ?_)
            refine hx_k (l := 30) (m := 2) rfl rfl (by decide) (fun z34 h35 => ?_)
            refine ax_go 1 (y := (31, [some (.ref o), some (.int iz), some (.int k)], [.int k, .int z34, .int z32, .ref p12, .ref p29], w1, 0, 0)) rfl trivial ?_
            refine hx_mul (l := 32) rfl rfl (fun z36 h37 => ?_)
            rw [h35] at h37
            replace h37 := h37 (by omega) (by omega)
            refine hx_add (l := 33) rfl rfl (fun z38 h39 => ?_)
            replace h39 := h39 (by omega) (by omega)
            refine hx_il (l := 34) rfl rfl g18 (by omega) (by omega) (fun z40 h41 => ?_)
            have b42 := ((hf7.1.1 _ _ hG14 g18).1 z38.toInt.toNat (by omega)).2.2.1 (by omega) (by omega) (by omega)
            rw [← h41] at b42
            obtain ⟨f43, g44, r45⟩ := hx_row hw6 hG31 (s := 47) (kd := 0) (n := 10) rfl (by decide)
            refine hx_il (l := 35) rfl rfl g44 (by omega) (by omega) (fun z46 h47 => ?_)
            have b48 := r45 (0, 10, 1, 0, 0, 98) (by decide) z40.toInt.toNat (show (0 : Nat) ≤ _ by omega) (show _ < (10 : Nat) by omega) (show _ % (1 : Nat) = 0 by omega)
            rw [← h47] at b48
            replace b48 : (0 : Int) ≤ z46.toInt ∧ z46.toInt ≤ 98 := b48
            refine ax_go 1 (y := (36, [some (.ref o), some (.int iz), some (.int k)], [.ref o, .int z46], w1, 0, 0)) rfl trivial ?_
            refine hx_gf (l := 39) rfl rfl rfl g10 e13 ?_
            refine hx_k (l := 41) (m := 91) rfl rfl (by decide) (fun z49 h50 => ?_)
            refine hx_k (l := 42) (m := 2) rfl rfl (by decide) (fun z51 h52 => ?_)
            refine ax_go 1 (y := (43, [some (.ref o), some (.int iz), some (.int k)], [.int k, .int z51, .int z49, .ref p12, .int z46], w1, 0, 0)) rfl trivial ?_
            refine hx_mul (l := 44) rfl rfl (fun z53 h54 => ?_)
            rw [h52] at h54
            replace h54 := h54 (by omega) (by omega)
            refine hx_add (l := 45) rfl rfl (fun z55 h56 => ?_)
            replace h56 := h56 (by omega) (by omega)
            refine hx_k (l := 46) (m := 1) rfl rfl (by decide) (fun z57 h58 => ?_)
            refine hx_add (l := 47) rfl rfl (fun z59 h60 => ?_)
            replace h60 := h60 (by omega) (by omega)
            refine hx_il (l := 48) rfl rfl g18 (by omega) (by omega) (fun z61 h62 => ?_)
            refine hx_ic_ne (l := 51) rfl rfl (fun h63 => ?_) (fun h63 => ?_)
            · -- 55
              refine hx_k (l := 56) (m := 0) rfl rfl (by decide) (fun z64 h65 => ?_)
              refine ax_go 1 (y := (57, [some (.ref o), some (.int z64), some (.int k)], [], w1, 0, 0)) rfl trivial ?_
              refine hx_iinc (x := k) (n := 1) (l := 60) rfl rfl rfl (Nat.le_of_ble_eq_true rfl) (by omega) (by omega) (by decide) (fun z66 h67 => ?_)
              change ab_wp ro (ab_Ev ro ab_codes d) 9 false (some .boolean) ab_k_X9_isAllHeard (fun o_1 => ∃ v w1, o_1 = (v, w1, 0, 0) ∧ ty_w sp_ G w1 ∧ (F9 G F) w1 ∧ ty_same G fz w w1 ∧ ck_res G (some (0, 0, 1)) v ∧ ck_wit 0 0 [.ref o] v) (60, [some (.ref o), some (.int z64), some (.int z66)], [], w1, 0, 0)
              refine ax_go 1 (y := (4, [some (.ref o), some (.int z64), some (.int z66)], [], w1, 0, 0)) rfl trivial ?_
              exact ih4 w1 z64 z66 hw6 hf7 hs8 (by omega) (by omega) (by omega) (by omega) (by omega)
            · -- 51
              refine hx_k (l := 52) (m := 1) rfl rfl (by decide) (fun z68 h69 => ?_)
              refine ax_go 2 (y := (57, [some (.ref o), some (.int z68), some (.int k)], [], w1, 0, 0)) rfl trivial ?_
              refine hx_iinc (x := k) (n := 1) (l := 60) rfl rfl rfl (Nat.le_of_ble_eq_true rfl) (by omega) (by omega) (by decide) (fun z70 h71 => ?_)
              change ab_wp ro (ab_Ev ro ab_codes d) 9 false (some .boolean) ab_k_X9_isAllHeard (fun o_1 => ∃ v w1, o_1 = (v, w1, 0, 0) ∧ ty_w sp_ G w1 ∧ (F9 G F) w1 ∧ ty_same G fz w w1 ∧ ck_res G (some (0, 0, 1)) v ∧ ck_wit 0 0 [.ref o] v) (60, [some (.ref o), some (.int z68), some (.int z70)], [], w1, 0, 0)
              refine ax_go 1 (y := (4, [some (.ref o), some (.int z68), some (.int z70)], [], w1, 0, 0)) rfl trivial ?_
              exact ih4 w1 z68 z70 hw6 hf7 hs8 (by omega) (by omega) (by omega) (by omega) (by omega)
    change ab_wp ro (ab_Ev ro ab_codes d) 9 false (some .boolean) ab_k_X9_isAllHeard (fun o_1 => ∃ v w1, o_1 = (v, w1, 0, 0) ∧ ty_w sp_ G w1 ∧ (F9 G F) w1 ∧ ty_same G fz w w1 ∧ ck_res G (some (0, 0, 1)) v ∧ ck_wit 0 0 [.ref o] v) (0, [some (.ref o), none, none], [], w, 0, 0)
    refine hx_k (l := 1) (m := 1) rfl rfl (by decide) (fun z72 h73 => ?_)
    refine ax_go 1 (y := (2, [some (.ref o), some (.int z72), none], [], w, 0, 0)) rfl trivial ?_
    refine hx_k (l := 3) (m := 0) rfl rfl (by decide) (fun z74 h75 => ?_)
    refine ax_go 1 (y := (4, [some (.ref o), some (.int z72), some (.int z74)], [], w, 0, 0)) rfl trivial ?_
    exact ct4 _ w z72 z74 hw hf (ty_same_rf w) (by omega) (by omega) (by omega) (by omega) (Nat.lt_succ_self _)
def fb_X9_keeps : List (Nat × Nat) := [(8, 3), (8, 5), (19, 999), (32, 999), (33, 999), (34, 999), (35, 999), (45, 999), (1, 0), (18, 999), (2, 11), (2, 14), (1, 15), (54, 11), (4, 2), (7, 9), (30, 13), (30, 2), (30, 22), (30, 23), (30, 24), (30, 25), (46, 999), (47, 999), (30, 35), (30, 36), (7, 0), (24, 999), (37, 999), (30, 4), (30, 5), (30, 6), (30, 8), (30, 9), (30, 10), (30, 11), (30, 14), (30, 15), (30, 16), (30, 17), (30, 18), (30, 19), (30, 20), (30, 21), (39, 999), (40, 999), (41, 999), (30, 30), (30, 42), (30, 43), (30, 44), (1, 1), (1, 3), (1, 10), (1, 13), (8, 0), (30, 49), (2, 15), (8, 1)]
set_option maxHeartbeats 8000000 in
theorem h_X9_keeps {ro : ab_R} {G : Nat → Nat} {fz : List (Nat × Nat)} {F : ab_W → Prop} (hF : ∀ w w', smt G w w' → F w → F w') (hfz : ∀ q ∈ fz, q ∈ fb_X9_keeps) (d : Nat) : ck_ct ro sp_ G (F9 G F) fz (ab_Ev ro ab_codes (d + 1)) 195 [(2, 30, 0), (0, (-2147483648), 2147483647)] none 0 0 := by
  have hFF := F9_same hF
  refine ck_hand (d := d + 0) (by decide) (fun as w hw hf has => ?_)
  match as, has with
  | [v0, v1], ⟨h0, h1, _⟩ =>
    obtain ⟨o, rfl, _, hG0⟩ := ty_refn h0 rfl rfl
    replace hG0 : G o = 30 := hG0
    obtain ⟨wt, rfl, hl1, hh1⟩ := ty_int h1 rfl
    replace hl1 : ((-2147483648) : Int) ≤ wt.toInt := hl1
    replace hh1 : wt.toInt ≤ 2147483647 := hh1
    refine ⟨rfl, ?_⟩
    have ct54 : ∀ (nq : Nat) (w1 : ab_W) (wd3 : Int32) (k3 : Int32) (um3 : Int32), ty_w sp_ G w1 → (F9 G F) w1 → ty_same G fz w w1 → (hx_has w1 o 9 34 (.int um3)) → (wd3.toInt = 72) → (0 ≤ k3.toInt) → (k3.toInt ≤ 71) → (um3.toInt ≤ 15) → (72 - k3.toInt).toNat < nq → ab_wp ro (ab_Ev ro ab_codes d) 9 false none ab_k_X9_keeps (fun o_1 => ∃ v w1, o_1 = (v, w1, 0, 0) ∧ ty_w sp_ G w1 ∧ (F9 G F) w1 ∧ ty_same G fz w w1 ∧ ck_res G none v ∧ ck_wit 0 0 [.ref o, .int wt] v) (54, [some (.ref o), some (.int wt), some (.int wd3), some (.int k3)], [], w1, 0, 0) := by
      intro nq
      induction nq with
      | zero => intro w1 wd3 k3 um3 hw7 hf8 hs9 hh2 i3 i4 i5 i6 hm; exact absurd hm (Nat.not_lt_zero _)
      | succ nq ih54 =>
        intro w1 wd3 k3 um3 hw7 hf8 hs9 hh2 i3 i4 i5 i6 hm54
        obtain ⟨fs10, g11, e12⟩ := hh2
        have q13 := hx_oq hw7 g11 hG0 (s := 30) rfl
        obtain ⟨x14, e15, a16, b17⟩ := hx_fi (k := 34) (lo := 0) (hi := 16) q13 rfl
        obtain rfl : um3 = x14 := hx_inji e12 e15
        refine ax_go 1 (y := (55, [some (.ref o), some (.int wt), some (.int wd3), some (.int k3)], [.int k3], w1, 0, 0)) rfl trivial ?_
        refine hx_k (l := 57) (m := 71) rfl rfl (by decide) (fun z18 h19 => ?_)
        refine hx_ic_ge (l := 60) rfl rfl (fun h20 => ?_) (fun h20 => ?_)
        · -- 85
          refine ax_go 1 (y := (86, [some (.ref o), some (.int wt), some (.int wd3), some (.int k3)], [.ref o], w1, 0, 0)) rfl trivial ?_
          obtain ⟨p21, e22, hG23⟩ := hx_fr (k := 32) (s := 44) q13 rfl
          refine hx_gf (l := 89) rfl rfl rfl g11 e22 ?_
          refine ax_go 2 (y := (91, [some (.ref o), some (.int wt), some (.int wd3), some (.int k3)], [.ref o, .int wd3, .ref p21], w1, 0, 0)) rfl trivial ?_
          refine hx_gf (l := 94) rfl rfl rfl g11 e12 ?_
          refine hx_mul (l := 95) rfl rfl (fun z24 h25 => ?_)
          rw [show wd3.toInt = 72 by omega] at h25; replace h25 := h25 (by omega) (by omega)
          refine hx_k (l := 97) (m := 71) rfl rfl (by decide) (fun z26 h27 => ?_)
          refine hx_add (l := 98) rfl rfl (fun z28 h29 => ?_)
          replace h29 := h29 (by omega) (by omega)
          refine ax_go 1 (y := (99, [some (.ref o), some (.int wt), some (.int wd3), some (.int k3)], [.int wt, .int z28, .ref p21], w1, 0, 0)) rfl trivial ?_
          obtain ⟨f30, g31, r32⟩ := hx_row hw7 hG23 (s := 44) (kd := 0) (n := 1152) rfl (by decide)
          refine hx_is (s := 44) (l := 100) rfl rfl rfl hw7 hG23 g31 (by omega) (by omega) hx_sg0 (fun w33 f34 g35 e36 o37 n38 hw39 n40 => ?_)
          have hs41 := ty_same_tr hs9 (n40 fz (hx_ok hfz (by decide)))
          have old2 := hf8.1.2.2.1 _ _ hG23 g31
          have mvn : ∀ r k1 : Nat, r < 16 → k1 < 71 → z28.toInt.toNat = 72 * r + k1 → mv_b k1 (f34 z28.toInt.toNat).toInt := by
            intro r k1 hr hk e
            omega
          have hf42 : F9 G F w33 := ⟨FM_l hf8.1 hG23 g35 n38 (ML_up old2 o37 mvn), hF _ _ (smt_of (n40 prN (by decide))) hf8.2⟩
          refine ax_go 2 (y := (102, [some (.ref o), some (.int wt), some (.int wd3), some (.int k3)], [.ref o, .ref o], w33, 0, 0)) rfl trivial ?_
          refine hx_gf (l := 105) rfl rfl rfl ((n38 _ (hx_ne hG0 hG23 (by decide))).trans g11) e12 ?_
          refine hx_k (l := 106) (m := 1) rfl rfl (by decide) (fun z43 h44 => ?_)
          refine hx_add (l := 107) rfl rfl (fun z45 h46 => ?_)
          replace h46 := h46 (by omega) (by omega)
          refine hx_pf (q := (0, 0, 0, 0, 0, 16)) (s := 30) (l := 110) (v := .int z45) rfl rfl rfl (by decide) rfl rfl rfl hw39 hG0 ((n38 _ (hx_ne hG0 hG23 (by decide))).trans g11) trivial (hx_ti (G := G) (lo := 0) (hi := 16) (by omega) (by omega)) (fun w47 fs48 g49 e50 o51 n52 hw53 n54 => ?_)
          have hs55 := ty_same_tr hs41 (n54 fz (hx_ok hfz (by decide)))
          have hf56 := hFF _ _ (n54 pr_ (by decide)) hf42
          exact ax_ret rfl rfl trivial ⟨none, _, rfl, hw53, hf56, hs55, trivial, trivial⟩
        · -- 60
          refine ax_go 1 (y := (61, [some (.ref o), some (.int wt), some (.int wd3), some (.int k3)], [.ref o], w1, 0, 0)) rfl trivial ?_
          obtain ⟨p57, e58, hG59⟩ := hx_fr (k := 32) (s := 44) q13 rfl
          refine hx_gf (l := 64) rfl rfl rfl g11 e58 ?_
          refine ax_go 2 (y := (66, [some (.ref o), some (.int wt), some (.int wd3), some (.int k3)], [.ref o, .int wd3, .ref p57], w1, 0, 0)) rfl trivial ?_
          refine hx_gf (l := 69) rfl rfl rfl g11 e12 ?_
          refine hx_mul (l := 70) rfl rfl (fun z60 h61 => ?_)
          rw [show wd3.toInt = 72 by omega] at h61; replace h61 := h61 (by omega) (by omega)
          refine ax_go 1 (y := (71, [some (.ref o), some (.int wt), some (.int wd3), some (.int k3)], [.int k3, .int z60, .ref p57], w1, 0, 0)) rfl trivial ?_
          refine hx_add (l := 72) rfl rfl (fun z62 h63 => ?_)
          replace h63 := h63 (by omega) (by omega)
          refine ax_go 1 (y := (73, [some (.ref o), some (.int wt), some (.int wd3), some (.int k3)], [.ref o, .int z62, .ref p57], w1, 0, 0)) rfl trivial ?_
          obtain ⟨p64, e65, hG66⟩ := hx_fr (k := 2) (s := 32) q13 rfl
          refine hx_gf (l := 76) rfl rfl rfl g11 e65 ?_
          refine ax_go 1 (y := (77, [some (.ref o), some (.int wt), some (.int wd3), some (.int k3)], [.int k3, .ref p64, .int z62, .ref p57], w1, 0, 0)) rfl trivial ?_
          obtain ⟨f67, g68, r69⟩ := hx_row hw7 hG66 (s := 32) (kd := 0) (n := 5721) rfl (by decide)
          refine hx_il (l := 78) rfl rfl g68 (by omega) (by omega) (fun z70 h71 => ?_)
          obtain ⟨f72, g73, r74⟩ := hx_row hw7 hG59 (s := 44) (kd := 0) (n := 1152) rfl (by decide)
          refine hx_is (s := 44) (l := 79) rfl rfl rfl hw7 hG59 g73 (by omega) (by omega) hx_sg0 (fun w75 f76 g77 e78 o79 n80 hw81 n82 => ?_)
          have hs83 := ty_same_tr hs9 (n82 fz (hx_ok hfz (by decide)))
          have old2 := hf8.1.2.2.1 _ _ hG59 g73
          have mvn : ∀ r k1 : Nat, r < 16 → k1 < 71 → z62.toInt.toNat = 72 * r + k1 → mv_b k1 (f76 z62.toInt.toNat).toInt := by
            intro r k1 hr hk e
            have kv := ((hf8.1.1 _ _ hG66 g68).1 k3.toInt.toNat (by omega)).1
            rw [e78, h71, show k1 = k3.toInt.toNat by omega]
            exact kv
          have hf84 : F9 G F w75 := ⟨FM_l hf8.1 hG59 g77 n80 (ML_up old2 o79 mvn), hF _ _ (smt_of (n82 prN (by decide))) hf8.2⟩
          refine hx_iinc (x := k3) (n := 1) (l := 82) rfl rfl rfl (Nat.le_of_ble_eq_true rfl) (by omega) (by omega) (by decide) (fun z85 h86 => ?_)
          change ab_wp ro (ab_Ev ro ab_codes d) 9 false none ab_k_X9_keeps (fun o_1 => ∃ v w1, o_1 = (v, w1, 0, 0) ∧ ty_w sp_ G w1 ∧ (F9 G F) w1 ∧ ty_same G fz w w1 ∧ ck_res G none v ∧ ck_wit 0 0 [.ref o, .int wt] v) (82, [some (.ref o), some (.int wt), some (.int wd3), some (.int z85)], [], w75, 0, 0)
          refine ax_go 1 (y := (54, [some (.ref o), some (.int wt), some (.int wd3), some (.int z85)], [], w75, 0, 0)) rfl trivial ?_
          exact ih54 w75 wd3 z85 um3 hw81 hf84 hs83 ⟨_, ((n80 _ (hx_ne hG0 hG59 (by decide))).trans g11), e12⟩ (by omega) (by omega) (by omega) (by omega) (by omega)
    have ct52 : ∀ (w87 : ab_W) (wd2 : Int32) (u3 : Option Int32) (um2 : Int32), ty_w sp_ G w87 → (F9 G F) w87 → ty_same G fz w w87 → (hx_has w87 o 9 34 (.int um2)) → (wd2.toInt = 72) → (um2.toInt ≤ 15) → ab_wp ro (ab_Ev ro ab_codes d) 9 false none ab_k_X9_keeps (fun o_1 => ∃ v w1, o_1 = (v, w1, 0, 0) ∧ ty_w sp_ G w1 ∧ (F9 G F) w1 ∧ ty_same G fz w w1 ∧ ck_res G none v ∧ ck_wit 0 0 [.ref o, .int wt] v) (52, [some (.ref o), some (.int wt), some (.int wd2), (u3.map Value.int)], [], w87, 0, 0) := by
      intro w87 wd2 u3 um2 hw91 hf92 hs93 hh88 i89 i90
      obtain ⟨fs94, g95, e96⟩ := hh88
      have q97 := hx_oq hw91 g95 hG0 (s := 30) rfl
      obtain ⟨x98, e99, a100, b101⟩ := hx_fi (k := 34) (lo := 0) (hi := 16) q97 rfl
      obtain rfl : um2 = x98 := hx_inji e96 e99
      refine hx_k (l := 53) (m := 0) rfl rfl (by decide) (fun z102 h103 => ?_)
      refine ax_go 1 (y := (54, [some (.ref o), some (.int wt), some (.int wd2), some (.int z102)], [], w87, 0, 0)) rfl trivial ?_
      exact ct54 _ w87 wd2 z102 um2 hw91 hf92 hs93 ⟨_, g95, e96⟩ (by omega) (by omega) (by omega) (by omega) (Nat.lt_succ_self _)
    have ct14 : ∀ (nq : Nat) (w104 : ab_W) (wd : Int32) (k : Int32) (um : Int32), ty_w sp_ G w104 → (F9 G F) w104 → ty_same G fz w w104 → (hx_has w104 o 9 34 (.int um)) → (wd.toInt = 72) → (0 ≤ k.toInt) → (k.toInt ≤ 1080) → (um.toInt = 16) → (1081 - k.toInt).toNat < nq → ab_wp ro (ab_Ev ro ab_codes d) 9 false none ab_k_X9_keeps (fun o_1 => ∃ v w1, o_1 = (v, w1, 0, 0) ∧ ty_w sp_ G w1 ∧ (F9 G F) w1 ∧ ty_same G fz w w1 ∧ ck_res G none v ∧ ck_wit 0 0 [.ref o, .int wt] v) (14, [some (.ref o), some (.int wt), some (.int wd), some (.int k)], [], w104, 0, 0) := by
      intro nq
      induction nq with
      | zero => intro w104 wd k um hw110 hf111 hs112 hh105 i106 i107 i108 i109 hm; exact absurd hm (Nat.not_lt_zero _)
      | succ nq ih14 =>
        intro w104 wd k um hw110 hf111 hs112 hh105 i106 i107 i108 i109 hm14
        obtain ⟨fs113, g114, e115⟩ := hh105
        have q116 := hx_oq hw110 g114 hG0 (s := 30) rfl
        obtain ⟨x117, e118, a119, b120⟩ := hx_fi (k := 34) (lo := 0) (hi := 16) q116 rfl
        obtain rfl : um = x117 := hx_inji e115 e118
        refine ax_go 1 (y := (15, [some (.ref o), some (.int wt), some (.int wd), some (.int k)], [.int k], w104, 0, 0)) rfl trivial ?_
        refine hx_k (l := 17) (m := 15) rfl rfl (by decide) (fun z121 h122 => ?_)
        refine ax_go 1 (y := (18, [some (.ref o), some (.int wt), some (.int wd), some (.int k)], [.int wd, .int z121, .int k], w104, 0, 0)) rfl trivial ?_
        refine hx_mul (l := 19) rfl rfl (fun z123 h124 => ?_)
        rw [h122] at h124
        replace h124 := h124 (by omega) (by omega)
        refine hx_ic_ge (l := 22) rfl rfl (fun h125 => ?_) (fun h125 => ?_)
        · -- 42
          refine ax_go 2 (y := (44, [some (.ref o), some (.int wt), some (.int wd), some (.int k)], [.ref o, .ref o], w104, 0, 0)) rfl trivial ?_
          refine hx_gf (l := 47) rfl rfl rfl g114 e115 ?_
          refine hx_k (l := 48) (m := 1) rfl rfl (by decide) (fun z126 h127 => ?_)
          refine hx_sub (l := 49) rfl rfl (fun z128 h129 => ?_)
          replace h129 := h129 (by omega) (by omega)
          refine hx_pf (q := (0, 0, 0, 0, 0, 16)) (s := 30) (l := 52) (v := .int z128) rfl rfl rfl (by decide) rfl rfl rfl hw110 hG0 g114 trivial (hx_ti (G := G) (lo := 0) (hi := 16) (by omega) (by omega)) (fun w130 fs131 g132 e133 o134 n135 hw136 n137 => ?_)
          have hs138 := ty_same_tr hs112 (n137 fz (hx_ok hfz (by decide)))
          have hf139 := hFF _ _ (n137 pr_ (by decide)) hf111
          exact ct52 w130 wd (some k) z128 hw136 hf139 hs138 ⟨_, g132, e133⟩ (by omega) (by omega)
        · -- 22
          refine ax_go 1 (y := (23, [some (.ref o), some (.int wt), some (.int wd), some (.int k)], [.ref o], w104, 0, 0)) rfl trivial ?_
          obtain ⟨p140, e141, hG142⟩ := hx_fr (k := 32) (s := 44) q116 rfl
          refine hx_gf (l := 26) rfl rfl rfl g114 e141 ?_
          refine ax_go 2 (y := (28, [some (.ref o), some (.int wt), some (.int wd), some (.int k)], [.ref o, .int k, .ref p140], w104, 0, 0)) rfl trivial ?_
          refine hx_gf (l := 31) rfl rfl rfl g114 e141 ?_
          refine ax_go 2 (y := (33, [some (.ref o), some (.int wt), some (.int wd), some (.int k)], [.int wd, .int k, .ref p140, .int k, .ref p140], w104, 0, 0)) rfl trivial ?_
          refine hx_add (l := 34) rfl rfl (fun z143 h144 => ?_)
          replace h144 := h144 (by omega) (by omega)
          obtain ⟨f145, g146, r147⟩ := hx_row hw110 hG142 (s := 44) (kd := 0) (n := 1152) rfl (by decide)
          refine hx_il (l := 35) rfl rfl g146 (by omega) (by omega) (fun z148 h149 => ?_)
          refine hx_is (s := 44) (l := 36) rfl rfl rfl hw110 hG142 g146 (by omega) (by omega) hx_sg0 (fun w150 f151 g152 e153 o154 n155 hw156 n157 => ?_)
          have hs158 := ty_same_tr hs112 (n157 fz (hx_ok hfz (by decide)))
          have old2 := hf111.1.2.2.1 _ _ hG142 g146
          have mvn : ∀ r k1 : Nat, r < 16 → k1 < 71 → k.toInt.toNat = 72 * r + k1 → mv_b k1 (f151 k.toInt.toNat).toInt := by
            intro r k1 hr hk e
            rw [e153, h149, show z143.toInt.toNat = 72 * (r + 1) + k1 by omega]
            exact old2 (r + 1) (by omega) k1 hk
          have hf159 : F9 G F w150 := ⟨FM_l hf111.1 hG142 g152 n155 (ML_up old2 o154 mvn), hF _ _ (smt_of (n157 prN (by decide))) hf111.2⟩
          refine hx_iinc (x := k) (n := 1) (l := 39) rfl rfl rfl (Nat.le_of_ble_eq_true rfl) (by omega) (by omega) (by decide) (fun z160 h161 => ?_)
          change ab_wp ro (ab_Ev ro ab_codes d) 9 false none ab_k_X9_keeps (fun o_1 => ∃ v w1, o_1 = (v, w1, 0, 0) ∧ ty_w sp_ G w1 ∧ (F9 G F) w1 ∧ ty_same G fz w w1 ∧ ck_res G none v ∧ ck_wit 0 0 [.ref o, .int wt] v) (39, [some (.ref o), some (.int wt), some (.int wd), some (.int z160)], [], w150, 0, 0)
          refine ax_go 1 (y := (14, [some (.ref o), some (.int wt), some (.int wd), some (.int z160)], [], w150, 0, 0)) rfl trivial ?_
          exact ih14 w150 wd z160 um hw156 hf159 hs158 ⟨_, ((n155 _ (hx_ne hG0 hG142 (by decide))).trans g114), e115⟩ (by omega) (by omega) (by omega) (by omega) (by omega)
    change ab_wp ro (ab_Ev ro ab_codes d) 9 false none ab_k_X9_keeps (fun o_1 => ∃ v w1, o_1 = (v, w1, 0, 0) ∧ ty_w sp_ G w1 ∧ (F9 G F) w1 ∧ ty_same G fz w w1 ∧ ck_res G none v ∧ ck_wit 0 0 [.ref o, .int wt] v) (0, [some (.ref o), some (.int wt), none, none], [], w, 0, 0)
    refine hx_k (l := 2) (m := 72) rfl rfl (by decide) (fun z162 h163 => ?_)
    refine ax_go 2 (y := (4, [some (.ref o), some (.int wt), some (.int z162), none], [.ref o], w, 0, 0)) rfl trivial ?_
    obtain ⟨fs164, g165, -, q166⟩ := hx_obj hw hG0 (s := 30) rfl (by decide)
    obtain ⟨x167, e168, a169, b170⟩ := hx_fi (k := 34) (lo := 0) (hi := 16) q166 rfl
    refine hx_gf (l := 7) rfl rfl rfl g165 e168 ?_
    refine hx_k (l := 9) (m := 16) rfl rfl (by decide) (fun z171 h172 => ?_)
    refine hx_ic_ne (l := 12) rfl rfl (fun h173 => ?_) (fun h173 => ?_)
    · -- 52
      exact ct52 w z162 none x167 hw hf (ty_same_rf w) ⟨_, g165, e168⟩ (by omega) (by omega)
    · -- 12
      refine hx_k (l := 13) (m := 0) rfl rfl (by decide) (fun z174 h175 => ?_)
      refine ax_go 1 (y := (14, [some (.ref o), some (.int wt), some (.int z162), some (.int z174)], [], w, 0, 0)) rfl trivial ?_
      exact ct14 _ w z162 z174 x167 hw hf (ty_same_rf w) ⟨_, g165, e168⟩ (by omega) (by omega) (by omega) (by omega) (Nat.lt_succ_self _)
def fb_X9_undo : List (Nat × Nat) := [(8, 3), (8, 5), (19, 999), (33, 999), (34, 999), (35, 999), (44, 999), (45, 999), (1, 0), (18, 999), (2, 11), (2, 14), (1, 15), (54, 11), (4, 2), (7, 9), (30, 13), (30, 2), (30, 22), (30, 23), (30, 24), (30, 25), (46, 999), (47, 999), (30, 35), (30, 36), (7, 0), (24, 999), (37, 999), (30, 4), (30, 5), (30, 6), (30, 8), (30, 9), (30, 10), (30, 11), (30, 14), (30, 15), (30, 16), (30, 17), (30, 18), (30, 19), (30, 20), (30, 21), (39, 999), (40, 999), (41, 999), (30, 30), (30, 42), (30, 43), (30, 44), (1, 1), (1, 3), (1, 10), (1, 13), (8, 0), (30, 49), (2, 15), (8, 1)]
set_option maxHeartbeats 8000000 in
theorem h_X9_undo {ro : ab_R} {G : Nat → Nat} {fz : List (Nat × Nat)} {F : ab_W → Prop} (hF : ∀ w w', smt G w w' → F w → F w') (hfz : ∀ q ∈ fz, q ∈ fb_X9_undo) (d : Nat) : ck_ct ro sp_ G (F9 G F) fz (ab_Ev ro ab_codes (d + 2)) 196 [(2, 30, 0)] (some (0, (-2147483648), 2147483647)) 0 0 := by
  have hFF := F9_same hF
  refine ck_hand (d := d + 1) (by decide) (fun as w hw hf has => ?_)
  match as, has with
  | [v0], ⟨h0, _⟩ =>
    obtain ⟨o, rfl, _, hG0⟩ := ty_refn h0 rfl rfl
    replace hG0 : G o = 30 := hG0
    refine ⟨rfl, ?_⟩
    have ct34 : ∀ (nq : Nat) (w1 : ab_W) (a1 : Int32) (k : Int32), ty_w sp_ G w1 → (F9 G F) w1 → ty_same G fz w w1 → (0 ≤ k.toInt) → (k.toInt ≤ 71) → (0 ≤ a1.toInt) → (a1.toInt ≤ 1080) → (∃ r : Nat, r < 16 ∧ a1.toInt = 72 * r) → (72 - k.toInt).toNat < nq → ab_wp ro (ab_Ev ro ab_codes (d + 1)) 9 false (some .int) ab_k_X9_undo (fun o_1 => ∃ v w1, o_1 = (v, w1, 0, 0) ∧ ty_w sp_ G w1 ∧ (F9 G F) w1 ∧ ty_same G fz w w1 ∧ ck_res G (some (0, (-2147483648), 2147483647)) v ∧ ck_wit 0 0 [.ref o] v) (34, [some (.ref o), some (.int a1), some (.int k)], [], w1, 0, 0) := by
      intro nq
      induction nq with
      | zero => intro w1 a1 k hw6 hf7 hs8 i2 i3 i4 i5 hr hm; exact absurd hm (Nat.not_lt_zero _)
      | succ nq ih34 =>
        intro w1 a1 k hw6 hf7 hs8 i2 i3 i4 i5 hr hm34
        refine ax_go 1 (y := (35, [some (.ref o), some (.int a1), some (.int k)], [.int k], w1, 0, 0)) rfl trivial ?_
        refine hx_k (l := 37) (m := 71) rfl rfl (by decide) (fun z9 h10 => ?_)
        refine hx_ic_ge (l := 40) rfl rfl (fun h11 => ?_) (fun h11 => ?_)
        · -- 60
          refine ax_go 2 (y := (62, [some (.ref o), some (.int a1), some (.int k)], [.ref o, .ref o], w1, 0, 0)) rfl trivial ?_
          obtain ⟨fs12, g13, -, q14⟩ := hx_obj hw6 hG0 (s := 30) rfl (by decide)
          obtain ⟨p15, e16, hG17⟩ := hx_fr (k := 32) (s := 44) q14 rfl
          refine hx_gf (l := 65) rfl rfl rfl g13 e16 ?_
          refine ax_go 1 (y := (66, [some (.ref o), some (.int a1), some (.int k)], [.int a1, .ref p15, .ref o], w1, 0, 0)) rfl trivial ?_
          refine hx_k (l := 68) (m := 71) rfl rfl (by decide) (fun z18 h19 => ?_)
          refine hx_add (l := 69) rfl rfl (fun z20 h21 => ?_)
          replace h21 := h21 (by omega) (by omega)
          obtain ⟨f22, g23, r24⟩ := hx_row hw6 hG17 (s := 44) (kd := 0) (n := 1152) rfl (by decide)
          refine hx_il (l := 70) rfl rfl g23 (by omega) (by omega) (fun z25 h26 => ?_)
          refine hx_ci (l := 73) (as := [.ref o, .int z25]) rfl rfl (hx_iv (j := 125) (n := 1) (o := o) (r := []) rfl rfl g13 rfl) (cc_X9_good_0 (fz := fz) hFF  (fun q hq => (by decide +kernel : ∀ q ∈ fb_X9_undo, q ∈ fr_X9_good_0) q (hfz q hq)) (d + 0)) hw6 hf7 ⟨(hx_tr (G := G) (s := 30) (b := 0) hG0 (by decide)), (ck_top_ok (G := G) z25), trivial⟩ (fun w27 z32 hw28 hf29 m30 a33 b34 u35 => ?_)
          have hs31 := ty_same_tr hs8 m30
          exact ax_ret rfl rfl trivial ⟨some (.int z32), _, rfl, hw28, hf29, hs31, (ck_top_ok (G := G) z32), trivial⟩
        · -- 40
          refine ax_go 1 (y := (41, [some (.ref o), some (.int a1), some (.int k)], [.ref o], w1, 0, 0)) rfl trivial ?_
          obtain ⟨fs36, g37, -, q38⟩ := hx_obj hw6 hG0 (s := 30) rfl (by decide)
          obtain ⟨p39, e40, hG41⟩ := hx_fr (k := 2) (s := 32) q38 rfl
          refine hx_gf (l := 44) rfl rfl rfl g37 e40 ?_
          refine ax_go 2 (y := (46, [some (.ref o), some (.int a1), some (.int k)], [.ref o, .int k, .ref p39], w1, 0, 0)) rfl trivial ?_
          obtain ⟨p42, e43, hG44⟩ := hx_fr (k := 32) (s := 44) q38 rfl
          refine hx_gf (l := 49) rfl rfl rfl g37 e43 ?_
          refine ax_go 2 (y := (51, [some (.ref o), some (.int a1), some (.int k)], [.int k, .int a1, .ref p42, .int k, .ref p39], w1, 0, 0)) rfl trivial ?_
          refine hx_add (l := 52) rfl rfl (fun z45 h46 => ?_)
          replace h46 := h46 (by omega) (by omega)
          obtain ⟨f47, g48, r49⟩ := hx_row hw6 hG44 (s := 44) (kd := 0) (n := 1152) rfl (by decide)
          refine hx_il (l := 53) rfl rfl g48 (by omega) (by omega) (fun z50 h51 => ?_)
          obtain ⟨rr, hr1, hr2⟩ := hr
          have mvq : mv_b k.toInt.toNat z50.toInt := by
            have y := hf7.1.2.2.1 _ _ hG44 g48 rr hr1 k.toInt.toNat (by omega)
            rw [show 72 * rr + k.toInt.toNat = z45.toInt.toNat by omega, ← h51] at y
            exact y
          obtain ⟨f52, g53, r54⟩ := hx_row hw6 hG41 (s := 32) (kd := 0) (n := 5721) rfl (by decide)
          refine hx_is (s := 32) (l := 54) rfl rfl rfl hw6 hG41 g53 (by omega) (by omega) (kb_sg (mv_ok mvq (by omega))) (fun w55 f56 g57 e58 o59 n60 hw61 n62 => ?_)
          have hs63 := ty_same_tr hs8 (n62 fz (hx_ok hfz (by decide)))
          have kp65 := hf7.1.1 _ _ hG41 g53
          have hf64 : F9 G F w55 := ⟨FM_k hf7.1 hG41 g57 n60 (KP_up kp65 o59 (by rw [e58]; exact mv_ok mvq (by omega)) (by omega)), hF _ _ (smt_k (n62 prM (by decide)) g53 g57 n60 (fun j hj => o59 j (by omega))) hf7.2⟩
          refine hx_iinc (x := k) (n := 1) (l := 57) rfl rfl rfl (Nat.le_of_ble_eq_true rfl) (by omega) (by omega) (by decide) (fun z67 h68 => ?_)
          change ab_wp ro (ab_Ev ro ab_codes (d + 1)) 9 false (some .int) ab_k_X9_undo (fun o_1 => ∃ v w1, o_1 = (v, w1, 0, 0) ∧ ty_w sp_ G w1 ∧ (F9 G F) w1 ∧ ty_same G fz w w1 ∧ ck_res G (some (0, (-2147483648), 2147483647)) v ∧ ck_wit 0 0 [.ref o] v) (57, [some (.ref o), some (.int a1), some (.int z67)], [], w55, 0, 0)
          refine ax_go 1 (y := (34, [some (.ref o), some (.int a1), some (.int z67)], [], w55, 0, 0)) rfl trivial ?_
          exact ih34 w55 a1 z67 hw61 hf64 hs63 (by omega) (by omega) (by omega) (by omega) ⟨rr, hr1, hr2⟩ (by omega)
    change ab_wp ro (ab_Ev ro ab_codes (d + 1)) 9 false (some .int) ab_k_X9_undo (fun o_1 => ∃ v w1, o_1 = (v, w1, 0, 0) ∧ ty_w sp_ G w1 ∧ (F9 G F) w1 ∧ ty_same G fz w w1 ∧ ck_res G (some (0, (-2147483648), 2147483647)) v ∧ ck_wit 0 0 [.ref o] v) (0, [some (.ref o), none, none], [], w, 0, 0)
    refine ax_go 1 (y := (1, [some (.ref o), none, none], [.ref o], w, 0, 0)) rfl trivial ?_
    obtain ⟨fs69, g70, -, q71⟩ := hx_obj hw hG0 (s := 30) rfl (by decide)
    obtain ⟨x72, e73, a74, b75⟩ := hx_fi (k := 34) (lo := 0) (hi := 16) q71 rfl
    refine hx_gf (l := 4) rfl rfl rfl g70 e73 ?_
    refine hx_if_ne (l := 7) rfl rfl (fun h76 => ?_) (fun h76 => ?_)
    · -- 14
      refine ax_go 2 (y := (16, [some (.ref o), none, none], [.ref o, .ref o], w, 0, 0)) rfl trivial ?_
      refine hx_gf (l := 19) rfl rfl rfl g70 e73 ?_
      refine hx_k (l := 20) (m := 1) rfl rfl (by decide) (fun z77 h78 => ?_)
      refine hx_sub (l := 21) rfl rfl (fun z79 h80 => ?_)
      replace h80 := h80 (by omega) (by omega)
      refine hx_pf (q := (0, 0, 0, 0, 0, 16)) (s := 30) (l := 24) (v := .int z79) rfl rfl rfl (by decide) rfl rfl rfl hw hG0 g70 trivial (hx_ti (G := G) (lo := 0) (hi := 16) (by omega) (by omega)) (fun w81 fs82 g83 e84 o85 n86 hw87 n88 => ?_)
      have hs89 := ty_same_tr (ty_same_rf w) (n88 fz (hx_ok hfz (by decide)))
      have hf90 := hFF _ _ (n88 pr_ (by decide)) hf
      refine hx_k (l := 26) (m := 72) rfl rfl (by decide) (fun z91 h92 => ?_)
      refine ax_go 1 (y := (27, [some (.ref o), none, none], [.ref o, .int z91], w81, 0, 0)) rfl trivial ?_
      refine hx_gf (l := 30) rfl rfl rfl g83 e84 ?_
      refine hx_mul (l := 31) rfl rfl (fun z93 h94 => ?_)
      rw [h92] at h94
      replace h94 := h94 (by omega) (by omega)
      refine ax_go 1 (y := (32, [some (.ref o), some (.int z93), none], [], w81, 0, 0)) rfl trivial ?_
      refine hx_k (l := 33) (m := 0) rfl rfl (by decide) (fun z95 h96 => ?_)
      refine ax_go 1 (y := (34, [some (.ref o), some (.int z93), some (.int z95)], [], w81, 0, 0)) rfl trivial ?_
      exact ct34 _ w81 z93 z95 hw87 hf90 hs89 (by omega) (by omega) (by omega) (by omega) ⟨(z93.toInt / 72).toNat, by omega, by omega⟩ (Nat.lt_succ_self _)
    · -- 7
      refine ax_go 1 (y := (8, [some (.ref o), none, none], [.ref o], w, 0, 0)) rfl trivial ?_
      refine hx_k (l := 10) (m := (-3)) rfl rfl (by decide) (fun z97 h98 => ?_)
      refine hx_ci (l := 13) (as := [.ref o, .int z97]) rfl rfl (hx_iv (j := 124) (n := 1) (o := o) (r := []) rfl rfl g70 rfl) (cc_X9_refuses_0 (fz := fz) hFF  (fun q hq => (by decide +kernel : ∀ q ∈ fb_X9_undo, q ∈ fr_X9_refuses_0) q (hfz q hq)) (d + 0)) hw hf ⟨(hx_tr (G := G) (s := 30) (b := 0) hG0 (by decide)), (hx_ti (G := G) (lo := (-6)) (hi := (-1)) (by omega) (by omega)), trivial⟩ (fun w99 z104 hw100 hf101 m102 a105 b106 u107 => ?_)
      have hs103 := ty_same_tr (ty_same_rf w) m102
      exact ax_ret rfl rfl trivial ⟨some (.int z104), _, rfl, hw100, hf101, hs103, (ck_top_ok (G := G) z104), trivial⟩
def fb_hp_X9_areBeside : List (Nat × Nat) := [(8, 3), (8, 5), (19, 999), (32, 999), (33, 999), (34, 999), (35, 999), (44, 999), (45, 999), (1, 0), (18, 999), (2, 11), (2, 14), (1, 15), (54, 11), (4, 2), (7, 9), (30, 13), (30, 34), (30, 2), (30, 22), (30, 23), (30, 24), (30, 25), (46, 999), (47, 999), (30, 35), (30, 36), (7, 0), (24, 999), (37, 999), (30, 4), (30, 5), (30, 6), (30, 8), (30, 9), (30, 10), (30, 11), (30, 14), (30, 15), (30, 16), (30, 17), (30, 18), (30, 19), (30, 20), (30, 21), (39, 999), (40, 999), (41, 999), (30, 30), (30, 42), (30, 43), (30, 44), (1, 1), (1, 3), (1, 10), (1, 13), (8, 0), (30, 49), (2, 15), (8, 1)]
set_option maxHeartbeats 8000000 in
theorem hp_X9_areBeside {ro : ab_R} {G : Nat → Nat} {fz : List (Nat × Nat)} {F : ab_W → Prop} (hF : ∀ w w', smt G w w' → F w → F w') (hfz : ∀ q ∈ fz, q ∈ fb_hp_X9_areBeside) (d : Nat) : hx_ct ro sp_ G (F9 G F) fz (ab_Ev ro ab_codes (d + 1)) 200 [(2, 30, 0), (0, 0, 9), (0, 0, 9)] (some (0, 0, 1)) (fun _ _ => True) (fun as w v w1 => w1 = w ∧ True) := by
  have hFF := F9_same hF
  refine hx_hand (d := d + 0) (by decide) (fun as w hw hf has hP => ?_)
  match as, has with
  | [v0, v1, v2], ⟨h0, h1, h2, _⟩ =>
    obtain ⟨o, rfl, _, hG0⟩ := ty_refn h0 rfl rfl
    replace hG0 : G o = 30 := hG0
    obtain ⟨a, rfl, hl1, hh1⟩ := ty_int h1 rfl
    replace hl1 : (0 : Int) ≤ a.toInt := hl1
    replace hh1 : a.toInt ≤ 9 := hh1
    obtain ⟨b, rfl, hl2, hh2⟩ := ty_int h2 rfl
    replace hl2 : (0 : Int) ≤ b.toInt := hl2
    replace hh2 : b.toInt ≤ 9 := hh2
    refine ⟨rfl, ?_⟩
    change ab_wp ro (ab_Ev ro ab_codes d) 9 false (some .boolean) ab_k_X9_areBeside (fun o_1 => ∃ v w1, o_1 = (v, w1, 0, 0) ∧ ty_w sp_ G w1 ∧ (F9 G F) w1 ∧ ty_same G fz w w1 ∧ ck_res G (some (0, 0, 1)) v ∧ (fun as w v w1 => w1 = w ∧ True) ([.ref o, .int a, .int b] : List Value) w v w1) (0, [some (.ref o), some (.int a), some (.int b)], [], w, 0, 0)
    refine ax_go 1 (y := (1, [some (.ref o), some (.int a), some (.int b)], [.ref o], w, 0, 0)) rfl trivial ?_
    obtain ⟨fs1, g2, -, q3⟩ := hx_obj hw hG0 (s := 30) rfl (by decide)
    obtain ⟨p4, e5, hG6⟩ := hx_fr (k := 2) (s := 32) q3 rfl
    refine hx_gf (l := 4) rfl rfl rfl g2 e5 ?_
    refine hx_k (l := 6) (m := 71) rfl rfl (by decide) (fun z7 h8 => ?_)
    refine ax_go 1 (y := (7, [some (.ref o), some (.int a), some (.int b)], [.int a, .int z7, .ref p4], w, 0, 0)) rfl trivial ?_
    refine hx_add (l := 8) rfl rfl (fun z9 h10 => ?_)
    replace h10 := h10 (by omega) (by omega)
    obtain ⟨f11, g12, r13⟩ := hx_row hw hG6 (s := 32) (kd := 0) (n := 5721) rfl (by decide)
    refine hx_il (l := 9) rfl rfl g12 (by omega) (by omega) (fun z14 h15 => ?_)
    refine ax_go 1 (y := (10, [some (.ref o), some (.int a), some (.int b)], [.int b, .int z14], w, 0, 0)) rfl trivial ?_
    refine hx_ic_eq (l := 13) rfl rfl (fun h16 => ?_) (fun h16 => ?_)
    · -- 26
      refine hx_k (l := 27) (m := 1) rfl rfl (by decide) (fun z17 h18 => ?_)
      refine ax_go 1 (y := (31, [some (.ref o), some (.int a), some (.int b)], [.int z17], w, 0, 0)) rfl trivial ?_
      exact ax_ret rfl rfl ⟨hx_01 (by omega) (by omega), trivial⟩ ⟨some (.int z17), _, rfl, hw, hf, (ty_same_rf w), (hx_ti (G := G) (lo := 0) (hi := 1) (by omega) (by omega)), ⟨rfl, trivial⟩⟩
    · -- 13
      refine ax_go 1 (y := (14, [some (.ref o), some (.int a), some (.int b)], [.ref o], w, 0, 0)) rfl trivial ?_
      refine hx_gf (l := 17) rfl rfl rfl g2 e5 ?_
      refine hx_k (l := 19) (m := 71) rfl rfl (by decide) (fun z19 h20 => ?_)
      refine ax_go 1 (y := (20, [some (.ref o), some (.int a), some (.int b)], [.int b, .int z19, .ref p4], w, 0, 0)) rfl trivial ?_
      refine hx_add (l := 21) rfl rfl (fun z21 h22 => ?_)
      replace h22 := h22 (by omega) (by omega)
      refine hx_il (l := 22) rfl rfl g12 (by omega) (by omega) (fun z23 h24 => ?_)
      refine ax_go 1 (y := (23, [some (.ref o), some (.int a), some (.int b)], [.int a, .int z23], w, 0, 0)) rfl trivial ?_
      refine hx_ic_ne (l := 26) rfl rfl (fun h25 => ?_) (fun h25 => ?_)
      · -- 30
        refine hx_k (l := 31) (m := 0) rfl rfl (by decide) (fun z26 h27 => ?_)
        exact ax_ret rfl rfl ⟨hx_01 (by omega) (by omega), trivial⟩ ⟨some (.int z26), _, rfl, hw, hf, (ty_same_rf w), (hx_ti (G := G) (lo := 0) (hi := 1) (by omega) (by omega)), ⟨rfl, trivial⟩⟩
      · -- 26
        refine hx_k (l := 27) (m := 1) rfl rfl (by decide) (fun z28 h29 => ?_)
        refine ax_go 1 (y := (31, [some (.ref o), some (.int a), some (.int b)], [.int z28], w, 0, 0)) rfl trivial ?_
        exact ax_ret rfl rfl ⟨hx_01 (by omega) (by omega), trivial⟩ ⟨some (.int z28), _, rfl, hw, hf, (ty_same_rf w), (hx_ti (G := G) (lo := 0) (hi := 1) (by omega) (by omega)), ⟨rfl, trivial⟩⟩
