/-! walks by program: the reference -/
def fb_hp_X9_areBeside : List (Nat × Nat) := [(8, 3), (8, 5), (19, 999), (32, 999), (33, 999), (34, 999), (35, 999), (44, 999), (45, 999), (1, 0), (18, 999), (2, 11), (2, 14), (1, 15), (54, 11), (4, 2), (7, 9), (30, 13), (30, 34), (30, 2), (30, 22), (30, 23), (30, 24), (30, 25), (46, 999), (47, 999), (30, 35), (30, 36)]
theorem hp_X9_areBeside {ro : ab_R} {G : Nat → Nat} {fz : List (Nat × Nat)} {F : ab_W → Prop} (hF : ∀ w w', ty_same G prM w w' → F w → F w') (hfz : ∀ q ∈ fz, q ∈ fb_hp_X9_areBeside) (d : Nat) : hx_ct ro sp_ G (F9 G F) fz (ab_Ev ro ab_codes (d + 1)) 200 [(2, 30, 0), (0, 0, 9), (0, 0, 9)] (some (0, 0, 1)) (fun _ _ => True) (fun as w v w1 => w1 = w ∧ True) := by
  have hFF := F9_same hF
  refine hx_hand (d := d + 0) (by decide) (fun as w hw hf has hP => ?_)
  match as, has with
  | [v0, v1, v2], ⟨h0, h1, h2, _⟩ =>
    obtain ⟨o, rfl, _, hG0⟩ := ty_refn h0 rfl rfl
    replace hG0 : G o = 30 := hG0
    obtain ⟨a, rfl, hl1, hh1⟩ := ty_int h1 rfl
    replace hl1 : (0 : Int) ≤ a.toInt := hl1
    replace hh1 : a.toInt ≤ 9 := hh1
    obtain ⟨b, rfl, hl2, hh2⟩ := ty_int h2 rfl
    replace hl2 : (0 : Int) ≤ b.toInt := hl2
    replace hh2 : b.toInt ≤ 9 := hh2
    refine ⟨rfl, ?_⟩
    change ab_wp ro (ab_Ev ro ab_codes d) 9 false (some .boolean) ab_k_X9_areBeside (fun o_1 => ∃ v w1, o_1 = (v, w1, 0, 0) ∧ ty_w sp_ G w1 ∧ (F9 G F) w1 ∧ ty_same G fz w w1 ∧ ck_res G (some (0, 0, 1)) v ∧ (fun as w v w1 => w1 = w ∧ True) ([.ref o, .int a, .int b] : List Value) w v w1) (0, [some (.ref o), some (.int a), some (.int b)], [], w, 0, 0)
    refine ax_go 1 (y := (1, [some (.ref o), some (.int a), some (.int b)], [.ref o], w, 0, 0)) rfl trivial ?_
    obtain ⟨fs1, g2, _, q3⟩ := hx_obj hw hG0 (s := 30) rfl (by decide)
    obtain ⟨p4, e5, hG6⟩ := hx_fr (k := 2) (s := 32) q3 rfl
    refine hx_gf (l := 4) rfl rfl rfl g2 e5 ?_
    refine hx_k (l := 6) (m := 71) rfl rfl (by decide) (fun z7 h8 => ?_)
    refine ax_go 1 (y := (7, [some (.ref o), some (.int a), some (.int b)], [.int a, .int z7, .ref p4], w, 0, 0)) rfl trivial ?_
    refine hx_add (l := 8) rfl rfl (fun z9 h10 => ?_)
    replace h10 := h10 (by omega) (by omega)
    obtain ⟨f11, g12, r13⟩ := hx_row hw hG6 (s := 32) (kd := 0) (n := 5721) rfl (by decide)
    refine hx_il (l := 9) rfl rfl g12 (by omega) (by omega) (fun z14 h15 => ?_)
    refine ax_go 1 (y := (10, [some (.ref o), some (.int a), some (.int b)], [.int b, .int z14], w, 0, 0)) rfl trivial ?_
    refine hx_ic_eq (l := 13) rfl rfl (fun h16 => ?_) (fun h16 => ?_)
    · -- 26
      refine hx_k (l := 27) (m := 1) rfl rfl (by decide) (fun z17 h18 => ?_)
      refine ax_go 1 (y := (31, [some (.ref o), some (.int a), some (.int b)], [.int z17], w, 0, 0)) rfl trivial ?_
      exact ax_ret rfl rfl ⟨hx_01 (by omega) (by omega), trivial⟩ ⟨some (.int z17), _, rfl, hw, hf, (ty_same_rf w), (hx_ti (G := G) (lo := 0) (hi := 1) (by omega) (by omega)), ⟨rfl, trivial⟩⟩
    · -- 13
      refine ax_go 1 (y := (14, [some (.ref o), some (.int a), some (.int b)], [.ref o], w, 0, 0)) rfl trivial ?_
      refine hx_gf (l := 17) rfl rfl rfl g2 e5 ?_
      refine hx_k (l := 19) (m := 71) rfl rfl (by decide) (fun z19 h20 => ?_)
      refine ax_go 1 (y := (20, [some (.ref o), some (.int a), some (.int b)], [.int b, .int z19, .ref p4], w, 0, 0)) rfl trivial ?_
      refine hx_add (l := 21) rfl rfl (fun z21 h22 => ?_)
      replace h22 := h22 (by omega) (by omega)
      refine hx_il (l := 22) rfl rfl g12 (by omega) (by omega) (fun z23 h24 => ?_)
      refine ax_go 1 (y := (23, [some (.ref o), some (.int a), some (.int b)], [.int a, .int z23], w, 0, 0)) rfl trivial ?_
      refine hx_ic_ne (l := 26) rfl rfl (fun h25 => ?_) (fun h25 => ?_)
      · -- 30
        refine hx_k (l := 31) (m := 0) rfl rfl (by decide) (fun z26 h27 => ?_)
        exact ax_ret rfl rfl ⟨hx_01 (by omega) (by omega), trivial⟩ ⟨some (.int z26), _, rfl, hw, hf, (ty_same_rf w), (hx_ti (G := G) (lo := 0) (hi := 1) (by omega) (by omega)), ⟨rfl, trivial⟩⟩
      · -- 26
        refine hx_k (l := 27) (m := 1) rfl rfl (by decide) (fun z28 h29 => ?_)
        refine ax_go 1 (y := (31, [some (.ref o), some (.int a), some (.int b)], [.int z28], w, 0, 0)) rfl trivial ?_
        exact ax_ret rfl rfl ⟨hx_01 (by omega) (by omega), trivial⟩ ⟨some (.int z28), _, rfl, hw, hf, (ty_same_rf w), (hx_ti (G := G) (lo := 0) (hi := 1) (by omega) (by omega)), ⟨rfl, trivial⟩⟩
def fb_X9_growsKept : List (Nat × Nat) := [(8, 3), (8, 5), (19, 999), (33, 999), (34, 999), (35, 999), (45, 999), (1, 0), (18, 999), (2, 11), (2, 14), (1, 15), (54, 11), (4, 2), (7, 9), (30, 13), (30, 2), (30, 22), (30, 23), (30, 24), (30, 25), (46, 999), (47, 999), (30, 35), (30, 36)]
theorem h_X9_growsKept {ro : ab_R} {G : Nat → Nat} {fz : List (Nat × Nat)} {F : ab_W → Prop} (hF : ∀ w w', ty_same G prM w w' → F w → F w') (hfz : ∀ q ∈ fz, q ∈ fb_X9_growsKept) (d : Nat) : ck_ct ro sp_ G (F9 G F) fz (ab_Ev ro ab_codes (d + 3)) 202 [(2, 30, 0), (0, (-2147483648), 2147483647), (0, (-2147483648), 2147483647)] (some (0, (-3), 999)) 0 0 := by
  have hFF := F9_same hF
  refine ck_hand (d := d + 2) (by decide) (fun as w hw hf has => ?_)
  match as, has with
  | [v0, v1, v2], ⟨h0, h1, h2, _⟩ =>
    obtain ⟨o, rfl, _, hG0⟩ := ty_refn h0 rfl rfl
    replace hG0 : G o = 30 := hG0
    obtain ⟨p, rfl, hl1, hh1⟩ := ty_int h1 rfl
    replace hl1 : ((-2147483648) : Int) ≤ p.toInt := hl1
    replace hh1 : p.toInt ≤ 2147483647 := hh1
    obtain ⟨by1, rfl, hl2, hh2⟩ := ty_int h2 rfl
    replace hl2 : ((-2147483648) : Int) ≤ by1.toInt := hl2
    replace hh2 : by1.toInt ≤ 2147483647 := hh2
    refine ⟨rfl, ?_⟩
    change ab_wp ro (ab_Ev ro ab_codes (d + 2)) 9 false (some .int) ab_k_X9_growsKept (fun o_1 => ∃ v w1, o_1 = (v, w1, 0, 0) ∧ ty_w sp_ G w1 ∧ (F9 G F) w1 ∧ ty_same G fz w w1 ∧ ck_res G (some (0, (-3), 999)) v ∧ ck_wit 0 0 [.ref o, .int p, .int by1] v) (0, [some (.ref o), some (.int p), some (.int by1)], [], w, 0, 0)
    refine ax_go 1 (y := (1, [some (.ref o), some (.int p), some (.int by1)], [.int by1], w, 0, 0)) rfl trivial ?_
    refine hx_k (l := 3) (m := (-99)) rfl rfl (by decide) (fun z1 h2 => ?_)
    refine hx_k (l := 5) (m := 99) rfl rfl (by decide) (fun z3 h4 => ?_)
    refine hx_pi (l := 8) (as := [.int by1, .int z1, .int z3]) rfl rfl rfl (hp_X9_lies (fz := fz) hFF (fun q hq => (by decide +kernel : ∀ q ∈ fb_X9_growsKept, q ∈ fb_hp_X9_lies) q (hfz q hq)) (d + 1)) hw hf ⟨(ck_top_ok (G := G) by1), (ck_top_ok (G := G) z1), (ck_top_ok (G := G) z3), trivial⟩ trivial (fun w5 z10 hw6 hf7 m8 a11 b12 u13 => ?_)
    rw [u13.1]
    have u14 := u13.2 _ _ _ _ rfl rfl
    refine hx_if_ne (l := 11) rfl rfl (fun h15 => ?_) (fun h15 => ?_)
    · -- 13
      refine ax_go 2 (y := (15, [some (.ref o), some (.int p), some (.int by1)], [.int p, .ref o], w, 0, 0)) rfl trivial ?_
      obtain ⟨fs16, g17, _, q18⟩ := hx_obj hw hG0 (s := 30) rfl (by decide)
      refine hx_pi (l := 18) (as := [.ref o, .int p]) rfl rfl (hx_iv (j := 133) (n := 1) (o := o) (r := []) rfl rfl g17 rfl) (hp_X9_isParish (fz := fz) hF (fun q hq => (by decide +kernel : ∀ q ∈ fb_X9_growsKept, q ∈ fb_hp_X9_isParish) q (hfz q hq)) (d + 0)) hw hf ⟨(hx_tr (G := G) (s := 30) (b := 0) hG0 (by decide)), (ck_top_ok (G := G) p), trivial⟩ trivial (fun w19 z24 hw20 hf21 m22 a25 b26 u27 => ?_)
      rw [u27.1]
      obtain ⟨p28, e29, hG30⟩ := hx_fr (k := 2) (s := 32) q18 rfl
      obtain ⟨f31, g32, r33⟩ := hx_row hw hG30 (s := 32) (kd := 0) (n := 5721) rfl (by decide)
      have u34 := u27.2 _ _ _ _ _ rfl ⟨_, g17, e29⟩ g32 rfl
      have b35 := ((hf.1.1 _ _ hG30 g32).1 110 (by decide)).2.2.2.2.1 rfl
      refine hx_if_ne (l := 21) rfl rfl (fun h36 => ?_) (fun h36 => ?_)
      · -- 24
        refine ax_go 1 (y := (25, [some (.ref o), some (.int p), some (.int by1)], [.ref o], w, 0, 0)) rfl trivial ?_
        refine hx_gf (l := 28) rfl rfl rfl g17 e29 ?_
        refine hx_k (l := 29) (m := 0) rfl rfl (by decide) (fun z37 h38 => ?_)
        refine ax_go 1 (y := (30, [some (.ref o), some (.int p), some (.int by1)], [.int p, .int z37, .ref p28], w, 0, 0)) rfl trivial ?_
        refine hx_add (l := 31) rfl rfl (fun z39 h40 => ?_)
        replace h40 := h40 (by omega) (by omega)
        refine hx_il (l := 32) rfl rfl g32 (by omega) (by omega) (fun z41 h42 => ?_)
        have b43 := ((hf.1.1 _ _ hG30 g32).1 z39.toInt.toNat (by omega)).1.1 (by omega)
        rw [← h42] at b43
        refine ax_go 1 (y := (33, [some (.ref o), some (.int p), some (.int by1)], [.int by1, .int z41], w, 0, 0)) rfl trivial ?_
        refine hx_add (l := 34) rfl rfl (fun z44 h45 => ?_)
        replace h45 := h45 (by omega) (by omega)
        refine hx_k (l := 35) (m := 0) rfl rfl (by decide) (fun z46 h47 => ?_)
        refine hx_k (l := 38) (m := 999) rfl rfl (by decide) (fun z48 h49 => ?_)
        refine hx_pi (l := 41) (as := [.int z44, .int z46, .int z48]) rfl rfl rfl (hp_X9_lies (fz := fz) hFF (fun q hq => (by decide +kernel : ∀ q ∈ fb_X9_growsKept, q ∈ fb_hp_X9_lies) q (hfz q hq)) (d + 1)) hw hf ⟨(ck_top_ok (G := G) z44), (ck_top_ok (G := G) z46), (ck_top_ok (G := G) z48), trivial⟩ trivial (fun w50 z55 hw51 hf52 m53 a56 b57 u58 => ?_)
        rw [u58.1]
        have u59 := u58.2 _ _ _ _ rfl rfl
        refine hx_if_ne (l := 44) rfl rfl (fun h60 => ?_) (fun h60 => ?_)
        · -- 47
          refine ax_go 1 (y := (48, [some (.ref o), some (.int p), some (.int by1)], [.ref o], w, 0, 0)) rfl trivial ?_
          refine hx_k (l := 49) (m := 3) rfl rfl (by decide) (fun z61 h62 => ?_)
          refine hx_c0 (l := 52) (as := [.ref o, .int z61]) rfl rfl (hx_iv (j := 195) (n := 1) (o := o) (r := []) rfl rfl g17 rfl) (h_X9_keeps (fz := ([(32, 999), (30, 2)] ++ fz)) hF (hx_app (by decide +kernel) (fun q hq => (by decide +kernel : ∀ q ∈ fb_X9_growsKept, q ∈ fb_X9_keeps) q (hfz q hq))) (d + 1)) hw hf ⟨(hx_tr (G := G) (s := 30) (b := 0) hG0 (by decide)), (ck_top_ok (G := G) z61), trivial⟩ (fun w63 hw64 hf65 m66 => ?_)
          have hs67 := ty_same_tr (ty_same_rf w) (hx_sapp m66)
          obtain ⟨fs72, g73, _, q74⟩ := hx_obj hw64 hG0 (s := 30) rfl (by decide)
          refine ax_go 1 (y := (53, [some (.ref o), some (.int p), some (.int by1)], [.ref o], w63, 0, 0)) rfl trivial ?_
          refine hx_gf (l := 56) rfl rfl rfl g73 ((hx_kf m66 (hx_mem hG0 (by decide)) g17 g73).trans e29) ?_
          refine hx_k (l := 57) (m := 0) rfl rfl (by decide) (fun z75 h76 => ?_)
          refine ax_go 1 (y := (58, [some (.ref o), some (.int p), some (.int by1)], [.int p, .int z75, .ref p28], w63, 0, 0)) rfl trivial ?_
          refine hx_add (l := 59) rfl rfl (fun z77 h78 => ?_)
          replace h78 := h78 (by omega) (by omega)
          refine ax_go 1 (y := (60, [some (.ref o), some (.int p), some (.int by1)], [.int z77, .ref p28, .int z77, .ref p28], w63, 0, 0)) rfl trivial ?_
          refine hx_il (l := 61) rfl rfl ((hx_kr m66 (hx_mem hG30 (by decide))).trans g32) (by omega) (by omega) (fun z79 h80 => ?_)
          have b81 := ((hf65.1.1 _ _ hG30 ((hx_kr m66 (hx_mem hG30 (by decide))).trans g32)).1 z77.toInt.toNat (by omega)).1.1 (by omega)
          rw [← h80] at b81
          have b82 : z79.toInt = z41.toInt := by rw [h80, h42, show z77.toInt.toNat = z39.toInt.toNat by omega]
          refine ax_go 1 (y := (62, [some (.ref o), some (.int p), some (.int by1)], [.int by1, .int z79, .int z77, .ref p28], w63, 0, 0)) rfl trivial ?_
          refine hx_add (l := 63) rfl rfl (fun z83 h84 => ?_)
          replace h84 := h84 (by omega) (by omega)
          refine hx_is (s := 32) (l := 64) rfl rfl rfl hw64 hG30 ((hx_kr m66 (hx_mem hG30 (by decide))).trans g32) (by omega) (by omega) (hx_sg1 (fun _ _ _ => ⟨by omega, by omega⟩) (hx_sg1 (fun _ _ _ => ⟨by omega, by omega⟩) (hx_sg1 (fun _ _ _ => ⟨by omega, by omega⟩) (hx_sg1 (fun _ _ _ => ⟨by omega, by omega⟩) (hx_sg1 (fun _ _ _ => ⟨by omega, by omega⟩) (hx_sg1 (fun _ _ _ => ⟨by omega, by omega⟩) (hx_sg1 (fun _ _ _ => ⟨by omega, by omega⟩) (hx_sg1 (fun _ _ _ => ⟨by omega, by omega⟩) (hx_sg1 (fun _ _ _ => ⟨by omega, by omega⟩) hx_sg0))))))))) (fun w85 f86 g87 e88 o89 n90 hw91 n92 => ?_)
          have hs93 := ty_same_tr hs67 (n92 fz (hx_ok hfz (by decide)))
          have kp95 := hf65.1.1 _ _ hG30 ((hx_kr m66 (hx_mem hG30 (by decide))).trans g32)
          have kq96 : kb z77.toInt.toNat z83.toInt := ⟨⟨fun _ => by omega, fun _ _ _ => by omega, fun _ _ _ => by omega, fun _ => by omega⟩, fun _ _ => by omega, fun _ _ _ => by omega, fun _ => by omega, fun _ => by omega, fun _ => by omega, fun _ => by omega, fun _ => by omega, fun _ _ => by omega⟩
          have hf94 : F9 G F w85 := ⟨FM_k hf65.1 hG30 g87 n90 (KP_up kp95 o89 (by rw [e88]; exact kq96) (by omega)), hF _ _ (n92 prM (by decide)) hf65.2⟩
          refine ax_go 1 (y := (65, [some (.ref o), some (.int p), some (.int by1)], [.ref o], w85, 0, 0)) rfl trivial ?_
          refine hx_gf (l := 68) rfl rfl rfl ((n90 _ (hx_ne hG0 hG30 (by decide))).trans g73) ((hx_kf m66 (hx_mem hG0 (by decide)) g17 g73).trans e29) ?_
          refine hx_k (l := 69) (m := 0) rfl rfl (by decide) (fun z97 h98 => ?_)
          refine ax_go 1 (y := (70, [some (.ref o), some (.int p), some (.int by1)], [.int p, .int z97, .ref p28], w85, 0, 0)) rfl trivial ?_
          refine hx_add (l := 71) rfl rfl (fun z99 h100 => ?_)
          replace h100 := h100 (by omega) (by omega)
          have r101 := hx_rq hw91 g87 hG30 (s := 32) rfl
          refine hx_il (l := 72) rfl rfl g87 (by omega) (by omega) (fun z102 h103 => ?_)
          have b104 := ((hf94.1.1 _ _ hG30 g87).1 z99.toInt.toNat (by omega)).1.1 (by omega)
          rw [← h103] at b104
          exact ax_ret rfl rfl trivial ⟨some (.int z102), _, rfl, hw91, hf94, hs93, (hx_ti (G := G) (lo := (-3)) (hi := 999) (by omega) (by omega)), trivial⟩
        · -- 44
          refine hx_k (l := 46) (m := (-3)) rfl rfl (by decide) (fun z105 h106 => ?_)
          exact ax_ret rfl rfl trivial ⟨some (.int z105), _, rfl, hw, hf, (ty_same_rf w), (hx_ti (G := G) (lo := (-3)) (hi := 999) (by omega) (by omega)), trivial⟩
      · -- 21
        refine hx_k (l := 23) (m := (-2)) rfl rfl (by decide) (fun z107 h108 => ?_)
        exact ax_ret rfl rfl trivial ⟨some (.int z107), _, rfl, hw, hf, (ty_same_rf w), (hx_ti (G := G) (lo := (-3)) (hi := 999) (by omega) (by omega)), trivial⟩
    · -- 11
      refine hx_k (l := 12) (m := (-1)) rfl rfl (by decide) (fun z109 h110 => ?_)
      exact ax_ret rfl rfl trivial ⟨some (.int z109), _, rfl, hw, hf, (ty_same_rf w), (hx_ti (G := G) (lo := (-3)) (hi := 999) (by omega) (by omega)), trivial⟩
def fb_X9_lendsKept : List (Nat × Nat) := [(8, 3), (8, 5), (19, 999), (33, 999), (34, 999), (35, 999), (45, 999), (1, 0), (18, 999), (2, 11), (2, 14), (1, 15), (54, 11), (4, 2), (7, 9), (30, 13), (30, 2), (30, 22), (30, 23), (30, 24), (30, 25), (46, 999), (47, 999), (30, 35), (30, 36)]
theorem h_X9_lendsKept {ro : ab_R} {G : Nat → Nat} {fz : List (Nat × Nat)} {F : ab_W → Prop} (hF : ∀ w w', ty_same G prM w w' → F w → F w') (hfz : ∀ q ∈ fz, q ∈ fb_X9_lendsKept) (d : Nat) : ck_ct ro sp_ G (F9 G F) fz (ab_Ev ro ab_codes (d + 3)) 201 [(2, 30, 0), (0, (-2147483648), 2147483647), (0, (-2147483648), 2147483647), (0, (-2147483648), 2147483647)] (some (0, (-3), 999)) 0 0 := by
  have hFF := F9_same hF
  refine ck_hand (d := d + 2) (by decide) (fun as w hw hf has => ?_)
  match as, has with
  | [v0, v1, v2, v3], ⟨h0, h1, h2, h3, _⟩ =>
    obtain ⟨o, rfl, _, hG0⟩ := ty_refn h0 rfl rfl
    replace hG0 : G o = 30 := hG0
    obtain ⟨a, rfl, hl1, hh1⟩ := ty_int h1 rfl
    replace hl1 : ((-2147483648) : Int) ≤ a.toInt := hl1
    replace hh1 : a.toInt ≤ 2147483647 := hh1
    obtain ⟨b, rfl, hl2, hh2⟩ := ty_int h2 rfl
    replace hl2 : ((-2147483648) : Int) ≤ b.toInt := hl2
    replace hh2 : b.toInt ≤ 2147483647 := hh2
    obtain ⟨mn, rfl, hl3, hh3⟩ := ty_int h3 rfl
    replace hl3 : ((-2147483648) : Int) ≤ mn.toInt := hl3
    replace hh3 : mn.toInt ≤ 2147483647 := hh3
    refine ⟨rfl, ?_⟩
    change ab_wp ro (ab_Ev ro ab_codes (d + 2)) 9 false (some .int) ab_k_X9_lendsKept (fun o_1 => ∃ v w1, o_1 = (v, w1, 0, 0) ∧ ty_w sp_ G w1 ∧ (F9 G F) w1 ∧ ty_same G fz w w1 ∧ ck_res G (some (0, (-3), 999)) v ∧ ck_wit 0 0 [.ref o, .int a, .int b, .int mn] v) (0, [some (.ref o), some (.int a), some (.int b), some (.int mn)], [], w, 0, 0)
    refine ax_go 1 (y := (1, [some (.ref o), some (.int a), some (.int b), some (.int mn)], [.int mn], w, 0, 0)) rfl trivial ?_
    refine hx_k (l := 2) (m := 1) rfl rfl (by decide) (fun z1 h2 => ?_)
    refine hx_k (l := 4) (m := 99) rfl rfl (by decide) (fun z3 h4 => ?_)
    refine hx_pi (l := 7) (as := [.int mn, .int z1, .int z3]) rfl rfl rfl (hp_X9_lies (fz := fz) hFF (fun q hq => (by decide +kernel : ∀ q ∈ fb_X9_lendsKept, q ∈ fb_hp_X9_lies) q (hfz q hq)) (d + 1)) hw hf ⟨(ck_top_ok (G := G) mn), (ck_top_ok (G := G) z1), (ck_top_ok (G := G) z3), trivial⟩ trivial (fun w5 z10 hw6 hf7 m8 a11 b12 u13 => ?_)
    rw [u13.1]
    have u14 := u13.2 _ _ _ _ rfl rfl
    refine hx_if_ne (l := 10) rfl rfl (fun h15 => ?_) (fun h15 => ?_)
    · -- 12
      refine ax_go 2 (y := (14, [some (.ref o), some (.int a), some (.int b), some (.int mn)], [.int a, .ref o], w, 0, 0)) rfl trivial ?_
      obtain ⟨fs16, g17, _, q18⟩ := hx_obj hw hG0 (s := 30) rfl (by decide)
      refine hx_pi (l := 17) (as := [.ref o, .int a]) rfl rfl (hx_iv (j := 133) (n := 1) (o := o) (r := []) rfl rfl g17 rfl) (hp_X9_isParish (fz := fz) hF (fun q hq => (by decide +kernel : ∀ q ∈ fb_X9_lendsKept, q ∈ fb_hp_X9_isParish) q (hfz q hq)) (d + 0)) hw hf ⟨(hx_tr (G := G) (s := 30) (b := 0) hG0 (by decide)), (ck_top_ok (G := G) a), trivial⟩ trivial (fun w19 z24 hw20 hf21 m22 a25 b26 u27 => ?_)
      rw [u27.1]
      obtain ⟨p28, e29, hG30⟩ := hx_fr (k := 2) (s := 32) q18 rfl
      obtain ⟨f31, g32, r33⟩ := hx_row hw hG30 (s := 32) (kd := 0) (n := 5721) rfl (by decide)
      have u34 := u27.2 _ _ _ _ _ rfl ⟨_, g17, e29⟩ g32 rfl
      have b35 := ((hf.1.1 _ _ hG30 g32).1 110 (by decide)).2.2.2.2.1 rfl
      refine hx_if_eq (l := 20) rfl rfl (fun h36 => ?_) (fun h36 => ?_)
      · -- 28
        refine hx_k (l := 30) (m := (-2)) rfl rfl (by decide) (fun z37 h38 => ?_)
        exact ax_ret rfl rfl trivial ⟨some (.int z37), _, rfl, hw, hf, (ty_same_rf w), (hx_ti (G := G) (lo := (-3)) (hi := 999) (by omega) (by omega)), trivial⟩
      · -- 20
        refine ax_go 2 (y := (22, [some (.ref o), some (.int a), some (.int b), some (.int mn)], [.int b, .ref o], w, 0, 0)) rfl trivial ?_
        refine hx_pi (l := 25) (as := [.ref o, .int b]) rfl rfl (hx_iv (j := 133) (n := 1) (o := o) (r := []) rfl rfl g17 rfl) (hp_X9_isParish (fz := fz) hF (fun q hq => (by decide +kernel : ∀ q ∈ fb_X9_lendsKept, q ∈ fb_hp_X9_isParish) q (hfz q hq)) (d + 0)) hw hf ⟨(hx_tr (G := G) (s := 30) (b := 0) hG0 (by decide)), (ck_top_ok (G := G) b), trivial⟩ trivial (fun w39 z44 hw40 hf41 m42 a45 b46 u47 => ?_)
        rw [u47.1]
        have u48 := u47.2 _ _ _ _ _ rfl ⟨_, g17, e29⟩ g32 rfl
        refine hx_if_ne (l := 28) rfl rfl (fun h49 => ?_) (fun h49 => ?_)
        · -- 31
          refine ax_go 3 (y := (34, [some (.ref o), some (.int a), some (.int b), some (.int mn)], [.int b, .int a, .ref o], w, 0, 0)) rfl trivial ?_
          refine hx_pi (l := 37) (as := [.ref o, .int a, .int b]) rfl rfl (hx_iv (j := 200) (n := 2) (o := o) (r := []) rfl rfl g17 rfl) (hp_X9_areBeside (fz := fz) hF (fun q hq => (by decide +kernel : ∀ q ∈ fb_X9_lendsKept, q ∈ fb_hp_X9_areBeside) q (hfz q hq)) (d + 1)) hw hf ⟨(hx_tr (G := G) (s := 30) (b := 0) hG0 (by decide)), (hx_ti (G := G) (lo := 0) (hi := 9) (by omega) (by omega)), (hx_ti (G := G) (lo := 0) (hi := 9) (by omega) (by omega)), trivial⟩ trivial (fun w50 z55 hw51 hf52 m53 a56 b57 u58 => ?_)
          rw [u58.1]
          refine hx_if_eq (l := 40) rfl rfl (fun h59 => ?_) (fun h59 => ?_)
          · -- 68
            refine hx_k (l := 70) (m := (-3)) rfl rfl (by decide) (fun z60 h61 => ?_)
            exact ax_ret rfl rfl trivial ⟨some (.int z60), _, rfl, hw, hf, (ty_same_rf w), (hx_ti (G := G) (lo := (-3)) (hi := 999) (by omega) (by omega)), trivial⟩
          · -- 40
            refine ax_go 1 (y := (41, [some (.ref o), some (.int a), some (.int b), some (.int mn)], [.ref o], w, 0, 0)) rfl trivial ?_
            refine hx_gf (l := 44) rfl rfl rfl g17 e29 ?_
            refine hx_k (l := 45) (m := 0) rfl rfl (by decide) (fun z62 h63 => ?_)
            refine ax_go 1 (y := (46, [some (.ref o), some (.int a), some (.int b), some (.int mn)], [.int a, .int z62, .ref p28], w, 0, 0)) rfl trivial ?_
            refine hx_add (l := 47) rfl rfl (fun z64 h65 => ?_)
            replace h65 := h65 (by omega) (by omega)
            refine hx_il (l := 48) rfl rfl g32 (by omega) (by omega) (fun z66 h67 => ?_)
            have b68 := ((hf.1.1 _ _ hG30 g32).1 z64.toInt.toNat (by omega)).1.1 (by omega)
            rw [← h67] at b68
            refine ax_go 1 (y := (49, [some (.ref o), some (.int a), some (.int b), some (.int mn)], [.int mn, .int z66], w, 0, 0)) rfl trivial ?_
            refine hx_ic_lt (l := 52) rfl rfl (fun h69 => ?_) (fun h69 => ?_)
            · -- 68
              refine hx_k (l := 70) (m := (-3)) rfl rfl (by decide) (fun z70 h71 => ?_)
              exact ax_ret rfl rfl trivial ⟨some (.int z70), _, rfl, hw, hf, (ty_same_rf w), (hx_ti (G := G) (lo := (-3)) (hi := 999) (by omega) (by omega)), trivial⟩
            · -- 52
              refine ax_go 1 (y := (53, [some (.ref o), some (.int a), some (.int b), some (.int mn)], [.ref o], w, 0, 0)) rfl trivial ?_
              refine hx_gf (l := 56) rfl rfl rfl g17 e29 ?_
              refine hx_k (l := 57) (m := 0) rfl rfl (by decide) (fun z72 h73 => ?_)
              refine ax_go 1 (y := (58, [some (.ref o), some (.int a), some (.int b), some (.int mn)], [.int b, .int z72, .ref p28], w, 0, 0)) rfl trivial ?_
              refine hx_add (l := 59) rfl rfl (fun z74 h75 => ?_)
              replace h75 := h75 (by omega) (by omega)
              refine hx_il (l := 60) rfl rfl g32 (by omega) (by omega) (fun z76 h77 => ?_)
              have b78 := ((hf.1.1 _ _ hG30 g32).1 z74.toInt.toNat (by omega)).1.1 (by omega)
              rw [← h77] at b78
              refine ax_go 1 (y := (61, [some (.ref o), some (.int a), some (.int b), some (.int mn)], [.int mn, .int z76], w, 0, 0)) rfl trivial ?_
              refine hx_add (l := 62) rfl rfl (fun z79 h80 => ?_)
              replace h80 := h80 (by omega) (by omega)
              refine hx_k (l := 65) (m := 999) rfl rfl (by decide) (fun z81 h82 => ?_)
              refine hx_ic_le (l := 68) rfl rfl (fun h83 => ?_) (fun h83 => ?_)
              · -- 71
                refine ax_go 1 (y := (72, [some (.ref o), some (.int a), some (.int b), some (.int mn)], [.ref o], w, 0, 0)) rfl trivial ?_
                refine hx_k (l := 73) (m := 2) rfl rfl (by decide) (fun z84 h85 => ?_)
                refine hx_c0 (l := 76) (as := [.ref o, .int z84]) rfl rfl (hx_iv (j := 195) (n := 1) (o := o) (r := []) rfl rfl g17 rfl) (h_X9_keeps (fz := ([(32, 999), (30, 2)] ++ fz)) hF (hx_app (by decide +kernel) (fun q hq => (by decide +kernel : ∀ q ∈ fb_X9_lendsKept, q ∈ fb_X9_keeps) q (hfz q hq))) (d + 1)) hw hf ⟨(hx_tr (G := G) (s := 30) (b := 0) hG0 (by decide)), (ck_top_ok (G := G) z84), trivial⟩ (fun w86 hw87 hf88 m89 => ?_)
                have hs90 := ty_same_tr (ty_same_rf w) (hx_sapp m89)
                obtain ⟨fs95, g96, _, q97⟩ := hx_obj hw87 hG0 (s := 30) rfl (by decide)
                refine ax_go 1 (y := (77, [some (.ref o), some (.int a), some (.int b), some (.int mn)], [.ref o], w86, 0, 0)) rfl trivial ?_
                refine hx_gf (l := 80) rfl rfl rfl g96 ((hx_kf m89 (hx_mem hG0 (by decide)) g17 g96).trans e29) ?_
                refine hx_k (l := 81) (m := 0) rfl rfl (by decide) (fun z98 h99 => ?_)
                refine ax_go 1 (y := (82, [some (.ref o), some (.int a), some (.int b), some (.int mn)], [.int a, .int z98, .ref p28], w86, 0, 0)) rfl trivial ?_
                refine hx_add (l := 83) rfl rfl (fun z100 h101 => ?_)
                replace h101 := h101 (by omega) (by omega)
                refine ax_go 1 (y := (84, [some (.ref o), some (.int a), some (.int b), some (.int mn)], [.int z100, .ref p28, .int z100, .ref p28], w86, 0, 0)) rfl trivial ?_
                refine hx_il (l := 85) rfl rfl ((hx_kr m89 (hx_mem hG30 (by decide))).trans g32) (by omega) (by omega) (fun z102 h103 => ?_)
                have b104 := ((hf88.1.1 _ _ hG30 ((hx_kr m89 (hx_mem hG30 (by decide))).trans g32)).1 z100.toInt.toNat (by omega)).1.1 (by omega)
                rw [← h103] at b104
                have b105 : z102.toInt = z66.toInt := by rw [h103, h67, show z100.toInt.toNat = z64.toInt.toNat by omega]
                refine ax_go 1 (y := (86, [some (.ref o), some (.int a), some (.int b), some (.int mn)], [.int mn, .int z102, .int z100, .ref p28], w86, 0, 0)) rfl trivial ?_
                refine hx_sub (l := 87) rfl rfl (fun z106 h107 => ?_)
                replace h107 := h107 (by omega) (by omega)
                refine hx_is (s := 32) (l := 88) rfl rfl rfl hw87 hG30 ((hx_kr m89 (hx_mem hG30 (by decide))).trans g32) (by omega) (by omega) (hx_sg1 (fun _ _ _ => ⟨by omega, by omega⟩) (hx_sg1 (fun _ _ _ => ⟨by omega, by omega⟩) (hx_sg1 (fun _ _ _ => ⟨by omega, by omega⟩) (hx_sg1 (fun _ _ _ => ⟨by omega, by omega⟩) (hx_sg1 (fun _ _ _ => ⟨by omega, by omega⟩) (hx_sg1 (fun _ _ _ => ⟨by omega, by omega⟩) (hx_sg1 (fun _ _ _ => ⟨by omega, by omega⟩) (hx_sg1 (fun _ _ _ => ⟨by omega, by omega⟩) (hx_sg1 (fun _ _ _ => ⟨by omega, by omega⟩) hx_sg0))))))))) (fun w108 f109 g110 e111 o112 n113 hw114 n115 => ?_)
                have hs116 := ty_same_tr hs90 (n115 fz (hx_ok hfz (by decide)))
                have kp118 := hf88.1.1 _ _ hG30 ((hx_kr m89 (hx_mem hG30 (by decide))).trans g32)
                have kq119 : kb z100.toInt.toNat z106.toInt := ⟨⟨fun _ => by omega, fun _ _ _ => by omega, fun _ _ _ => by omega, fun _ => by omega⟩, fun _ _ => by omega, fun _ _ _ => by omega, fun _ => by omega, fun _ => by omega, fun _ => by omega, fun _ => by omega, fun _ => by omega, fun _ _ => by omega⟩
                have hf117 : F9 G F w108 := ⟨FM_k hf88.1 hG30 g110 n113 (KP_up kp118 o112 (by rw [e111]; exact kq119) (by omega)), hF _ _ (n115 prM (by decide)) hf88.2⟩
                refine ax_go 1 (y := (89, [some (.ref o), some (.int a), some (.int b), some (.int mn)], [.ref o], w108, 0, 0)) rfl trivial ?_
                refine hx_gf (l := 92) rfl rfl rfl ((n113 _ (hx_ne hG0 hG30 (by decide))).trans g96) ((hx_kf m89 (hx_mem hG0 (by decide)) g17 g96).trans e29) ?_
                refine hx_k (l := 93) (m := 0) rfl rfl (by decide) (fun z120 h121 => ?_)
                refine ax_go 1 (y := (94, [some (.ref o), some (.int a), some (.int b), some (.int mn)], [.int b, .int z120, .ref p28], w108, 0, 0)) rfl trivial ?_
                refine hx_add (l := 95) rfl rfl (fun z122 h123 => ?_)
                replace h123 := h123 (by omega) (by omega)
                refine ax_go 1 (y := (96, [some (.ref o), some (.int a), some (.int b), some (.int mn)], [.int z122, .ref p28, .int z122, .ref p28], w108, 0, 0)) rfl trivial ?_
                have r124 := hx_rq hw114 g110 hG30 (s := 32) rfl
                refine hx_il (l := 97) rfl rfl g110 (by omega) (by omega) (fun z125 h126 => ?_)
                have b127 := ((hf117.1.1 _ _ hG30 g110).1 z122.toInt.toNat (by omega)).1.1 (by omega)
                rw [← h126] at b127
                have b128 : z125.toInt = z76.toInt ∨ z125.toInt = z102.toInt - mn.toInt := by
                  by_cases zz : z122.toInt.toNat = z100.toInt.toNat
                  · right; rw [h126, zz, e111]; omega
                  · left; rw [h126, o112 _ zz, h77, show z122.toInt.toNat = z74.toInt.toNat by omega]
                refine ax_go 1 (y := (98, [some (.ref o), some (.int a), some (.int b), some (.int mn)], [.int mn, .int z125, .int z122, .ref p28], w108, 0, 0)) rfl trivial ?_
                refine hx_add (l := 99) rfl rfl (fun z129 h130 => ?_)
                replace h130 := h130 (by omega) (by omega)
                refine hx_is (s := 32) (l := 100) rfl rfl rfl hw114 hG30 g110 (by omega) (by omega) (hx_sg1 (fun _ _ _ => ⟨by omega, by omega⟩) (hx_sg1 (fun _ _ _ => ⟨by omega, by omega⟩) (hx_sg1 (fun _ _ _ => ⟨by omega, by omega⟩) (hx_sg1 (fun _ _ _ => ⟨by omega, by omega⟩) (hx_sg1 (fun _ _ _ => ⟨by omega, by omega⟩) (hx_sg1 (fun _ _ _ => ⟨by omega, by omega⟩) (hx_sg1 (fun _ _ _ => ⟨by omega, by omega⟩) (hx_sg1 (fun _ _ _ => ⟨by omega, by omega⟩) (hx_sg1 (fun _ _ _ => ⟨by omega, by omega⟩) hx_sg0))))))))) (fun w131 f132 g133 e134 o135 n136 hw137 n138 => ?_)
                have hs139 := ty_same_tr hs116 (n138 fz (hx_ok hfz (by decide)))
                have kp141 := hf117.1.1 _ _ hG30 g110
                have kq142 : kb z122.toInt.toNat z129.toInt := ⟨⟨fun _ => by omega, fun _ _ _ => by omega, fun _ _ _ => by omega, fun _ => by omega⟩, fun _ _ => by omega, fun _ _ _ => by omega, fun _ => by omega, fun _ => by omega, fun _ => by omega, fun _ => by omega, fun _ => by omega, fun _ _ => by omega⟩
                have hf140 : F9 G F w131 := ⟨FM_k hf117.1 hG30 g133 n136 (KP_up kp141 o135 (by rw [e134]; exact kq142) (by omega)), hF _ _ (n138 prM (by decide)) hf117.2⟩
                refine ax_go 1 (y := (101, [some (.ref o), some (.int a), some (.int b), some (.int mn)], [.ref o], w131, 0, 0)) rfl trivial ?_
                refine hx_gf (l := 104) rfl rfl rfl ((n136 _ (hx_ne hG0 hG30 (by decide))).trans ((n113 _ (hx_ne hG0 hG30 (by decide))).trans g96)) ((hx_kf m89 (hx_mem hG0 (by decide)) g17 g96).trans e29) ?_
                refine hx_k (l := 105) (m := 0) rfl rfl (by decide) (fun z143 h144 => ?_)
                refine ax_go 1 (y := (106, [some (.ref o), some (.int a), some (.int b), some (.int mn)], [.int a, .int z143, .ref p28], w131, 0, 0)) rfl trivial ?_
                refine hx_add (l := 107) rfl rfl (fun z145 h146 => ?_)
                replace h146 := h146 (by omega) (by omega)
                have r147 := hx_rq hw137 g133 hG30 (s := 32) rfl
                refine hx_il (l := 108) rfl rfl g133 (by omega) (by omega) (fun z148 h149 => ?_)
                have b150 := ((hf140.1.1 _ _ hG30 g133).1 z145.toInt.toNat (by omega)).1.1 (by omega)
                rw [← h149] at b150
                exact ax_ret rfl rfl trivial ⟨some (.int z148), _, rfl, hw137, hf140, hs139, (hx_ti (G := G) (lo := (-3)) (hi := 999) (by omega) (by omega)), trivial⟩
              · -- 68
                refine hx_k (l := 70) (m := (-3)) rfl rfl (by decide) (fun z151 h152 => ?_)
                exact ax_ret rfl rfl trivial ⟨some (.int z151), _, rfl, hw, hf, (ty_same_rf w), (hx_ti (G := G) (lo := (-3)) (hi := 999) (by omega) (by omega)), trivial⟩
        · -- 28
          refine hx_k (l := 30) (m := (-2)) rfl rfl (by decide) (fun z153 h154 => ?_)
          exact ax_ret rfl rfl trivial ⟨some (.int z153), _, rfl, hw, hf, (ty_same_rf w), (hx_ti (G := G) (lo := (-3)) (hi := 999) (by omega) (by omega)), trivial⟩
    · -- 10
      refine hx_k (l := 11) (m := (-1)) rfl rfl (by decide) (fun z155 h156 => ?_)
      exact ax_ret rfl rfl trivial ⟨some (.int z155), _, rfl, hw, hf, (ty_same_rf w), (hx_ti (G := G) (lo := (-3)) (hi := 999) (by omega) (by omega)), trivial⟩
