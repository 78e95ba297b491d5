/-! walks by program: the reference -/
def fb_X9_growsKept : List (Nat × Nat) := [(8, 3), (8, 5), (19, 999), (33, 999), (34, 999), (35, 999), (45, 999), (1, 0), (18, 999), (2, 11), (2, 14), (1, 15), (54, 11), (4, 2), (7, 9), (30, 13), (30, 2), (30, 22), (30, 23), (30, 24), (30, 25), (46, 999), (47, 999), (30, 35), (30, 36), (7, 0), (24, 999), (37, 999), (30, 4), (30, 5), (30, 6), (30, 8), (30, 9), (30, 10), (30, 11), (30, 14), (30, 15), (30, 16), (30, 17), (30, 18), (30, 19), (30, 20), (30, 21), (39, 999), (40, 999), (41, 999), (30, 30), (30, 42), (30, 43), (30, 44), (1, 1), (1, 3), (1, 10), (1, 13), (8, 0), (30, 49), (2, 15), (8, 1)]
set_option maxHeartbeats 8000000 in
theorem h_X9_growsKept {ro : ab_R} {G : Nat → Nat} {fz : List (Nat × Nat)} {F : ab_W → Prop} (hF : ∀ w w', smt G w w' → F w → F w') (hfz : ∀ q ∈ fz, q ∈ fb_X9_growsKept) (d : Nat) : ck_ct ro sp_ G (F9 G F) fz (ab_Ev ro ab_codes (d + 3)) 202 [(2, 30, 0), (0, (-2147483648), 2147483647), (0, (-2147483648), 2147483647)] (some (0, (-3), 999)) 0 0 := by
  have hFF := F9_same hF
  refine ck_hand (d := d + 2) (by decide) (fun as w hw hf has => ?_)
  match as, has with
  | [v0, v1, v2], ⟨h0, h1, h2, _⟩ =>
    obtain ⟨o, rfl, _, hG0⟩ := ty_refn h0 rfl rfl
    replace hG0 : G o = 30 := hG0
    obtain ⟨p, rfl, hl1, hh1⟩ := ty_int h1 rfl
    replace hl1 : ((-2147483648) : Int) ≤ p.toInt := hl1
    replace hh1 : p.toInt ≤ 2147483647 := hh1
    obtain ⟨by1, rfl, hl2, hh2⟩ := ty_int h2 rfl
    replace hl2 : ((-2147483648) : Int) ≤ by1.toInt := hl2
    replace hh2 : by1.toInt ≤ 2147483647 := hh2
    refine ⟨rfl, ?_⟩
    change ab_wp ro (ab_Ev ro ab_codes (d + 2)) 9 false (some .int) ab_k_X9_growsKept (fun o_1 => ∃ v w1, o_1 = (v, w1, 0, 0) ∧ ty_w sp_ G w1 ∧ (F9 G F) w1 ∧ ty_same G fz w w1 ∧ ck_res G (some (0, (-3), 999)) v ∧ ck_wit 0 0 [.ref o, .int p, .int by1] v) (0, [some (.ref o), some (.int p), some (.int by1)], [], w, 0, 0)
    refine ax_go 1 (y := (1, [some (.ref o), some (.int p), some (.int by1)], [.int by1], w, 0, 0)) rfl trivial ?_
    refine hx_k (l := 3) (m := (-99)) rfl rfl (by decide) (fun z1 h2 => ?_)
    refine hx_k (l := 5) (m := 99) rfl rfl (by decide) (fun z3 h4 => ?_)
    refine hx_pi (l := 8) (as := [.int by1, .int z1, .int z3]) rfl rfl rfl (hp_X9_lies (fz := fz) hFF (fun q hq => (by decide +kernel : ∀ q ∈ fb_X9_growsKept, q ∈ fb_hp_X9_lies) q (hfz q hq)) (d + 1)) hw hf ⟨(ck_top_ok (G := G) by1), (ck_top_ok (G := G) z1), (ck_top_ok (G := G) z3), trivial⟩ trivial (fun w5 z10 hw6 hf7 m8 a11 b12 u13 => ?_)
    rw [u13.1]
    have u14 := u13.2 _ _ _ _ rfl rfl
    clear u13
    refine hx_if_ne (l := 11) rfl rfl (fun h15 => ?_) (fun h15 => ?_)
    · -- 13
      replace u14 := u14.1 (by omega)
      refine ax_go 2 (y := (15, [some (.ref o), some (.int p), some (.int by1)], [.int p, .ref o], w, 0, 0)) rfl trivial ?_
      obtain ⟨fs16, g17, -, q18⟩ := hx_obj hw hG0 (s := 30) rfl (by decide)
      refine hx_pi (l := 18) (as := [.ref o, .int p]) rfl rfl (hx_iv (j := 133) (n := 1) (o := o) (r := []) rfl rfl g17 rfl) (hp_X9_isParish (fz := fz) hF (fun q hq => (by decide +kernel : ∀ q ∈ fb_X9_growsKept, q ∈ fb_hp_X9_isParish) q (hfz q hq)) (d + 0)) hw hf ⟨(hx_tr (G := G) (s := 30) (b := 0) hG0 (by decide)), (ck_top_ok (G := G) p), trivial⟩ trivial (fun w19 z24 hw20 hf21 m22 a25 b26 u27 => ?_)
      rw [u27.1]
      obtain ⟨p28, e29, hG30⟩ := hx_fr (k := 2) (s := 32) q18 rfl
      obtain ⟨f31, g32, r33⟩ := hx_row hw hG30 (s := 32) (kd := 0) (n := 5721) rfl (by decide)
      have u34 := u27.2 _ _ _ _ _ rfl ⟨_, g17, e29⟩ g32 rfl
      clear u27
      have b35 := ((hf.1.1 _ _ hG30 g32).1 110 (by decide)).2.2.2.2.1 rfl
      refine hx_if_ne (l := 21) rfl rfl (fun h36 => ?_) (fun h36 => ?_)
      · -- 24
        replace u34 := u34.1 (by omega)
        refine ax_go 1 (y := (25, [some (.ref o), some (.int p), some (.int by1)], [.ref o], w, 0, 0)) rfl trivial ?_
        refine hx_gf (l := 28) rfl rfl rfl g17 e29 ?_
        refine hx_k (l := 29) (m := 0) rfl rfl (by decide) (fun z37 h38 => ?_)
        refine ax_go 1 (y := (30, [some (.ref o), some (.int p), some (.int by1)], [.int p, .int z37, .ref p28], w, 0, 0)) rfl trivial ?_
        refine hx_add (l := 31) rfl rfl (fun z39 h40 => ?_)
        replace h40 := h40 (by omega) (by omega)
        refine hx_il (l := 32) rfl rfl g32 (by omega) (by omega) (fun z41 h42 => ?_)
        have b43 := ((hf.1.1 _ _ hG30 g32).1 z39.toInt.toNat (by omega)).1.1 (by omega)
        rw [← h42] at b43
        refine ax_go 1 (y := (33, [some (.ref o), some (.int p), some (.int by1)], [.int by1, .int z41], w, 0, 0)) rfl trivial ?_
        refine hx_add (l := 34) rfl rfl (fun z44 h45 => ?_)
        replace h45 := h45 (by omega) (by omega)
        refine hx_k (l := 35) (m := 0) rfl rfl (by decide) (fun z46 h47 => ?_)
        refine hx_k (l := 38) (m := 999) rfl rfl (by decide) (fun z48 h49 => ?_)
        refine hx_pi (l := 41) (as := [.int z44, .int z46, .int z48]) rfl rfl rfl (hp_X9_lies (fz := fz) hFF (fun q hq => (by decide +kernel : ∀ q ∈ fb_X9_growsKept, q ∈ fb_hp_X9_lies) q (hfz q hq)) (d + 1)) hw hf ⟨(ck_top_ok (G := G) z44), (ck_top_ok (G := G) z46), (ck_top_ok (G := G) z48), trivial⟩ trivial (fun w50 z55 hw51 hf52 m53 a56 b57 u58 => ?_)
        rw [u58.1]
        have u59 := u58.2 _ _ _ _ rfl rfl
        clear u58
        refine hx_if_ne (l := 44) rfl rfl (fun h60 => ?_) (fun h60 => ?_)
        · -- 47
          replace u59 := u59.1 (by omega)
          refine ax_go 1 (y := (48, [some (.ref o), some (.int p), some (.int by1)], [.ref o], w, 0, 0)) rfl trivial ?_
          refine hx_k (l := 49) (m := 3) rfl rfl (by decide) (fun z61 h62 => ?_)
          refine hx_c0 (l := 52) (as := [.ref o, .int z61]) rfl rfl (hx_iv (j := 195) (n := 1) (o := o) (r := []) rfl rfl g17 rfl) (h_X9_keeps (fz := ([(32, 999), (30, 2)] ++ fz)) hF (hx_app (by decide +kernel) (fun q hq => (by decide +kernel : ∀ q ∈ fb_X9_growsKept, q ∈ fb_X9_keeps) q (hfz q hq))) (d + 1)) hw hf ⟨(hx_tr (G := G) (s := 30) (b := 0) hG0 (by decide)), (ck_top_ok (G := G) z61), trivial⟩ (fun w63 hw64 hf65 m66 => ?_)
          have hs67 := ty_same_tr (ty_same_rf w) (hx_sapp m66)
          obtain ⟨fs72, g73, -, q74⟩ := hx_obj hw64 hG0 (s := 30) rfl (by decide)
          refine ax_go 1 (y := (53, [some (.ref o), some (.int p), some (.int by1)], [.ref o], w63, 0, 0)) rfl trivial ?_
          refine hx_gf (l := 56) rfl rfl rfl g73 ((hx_kf m66 (hx_mem hG0 (by decide)) g17 g73).trans e29) ?_
          refine hx_k (l := 57) (m := 0) rfl rfl (by decide) (fun z75 h76 => ?_)
          refine ax_go 1 (y := (58, [some (.ref o), some (.int p), some (.int by1)], [.int p, .int z75, .ref p28], w63, 0, 0)) rfl trivial ?_
          refine hx_add (l := 59) rfl rfl (fun z77 h78 => ?_)
          replace h78 := h78 (by omega) (by omega)
          refine ax_go 1 (y := (60, [some (.ref o), some (.int p), some (.int by1)], [.int z77, .ref p28, .int z77, .ref p28], w63, 0, 0)) rfl trivial ?_
          refine hx_il (l := 61) rfl rfl ((hx_kr m66 (hx_mem hG30 (by decide))).trans g32) (by omega) (by omega) (fun z79 h80 => ?_)
          have b81 := ((hf65.1.1 _ _ hG30 ((hx_kr m66 (hx_mem hG30 (by decide))).trans g32)).1 z77.toInt.toNat (by omega)).1.1 (by omega)
          rw [← h80] at b81
          have b82 : z79.toInt = z41.toInt := by rw [h80, h42, show z77.toInt.toNat = z39.toInt.toNat by omega]
          refine ax_go 1 (y := (62, [some (.ref o), some (.int p), some (.int by1)], [.int by1, .int z79, .int z77, .ref p28], w63, 0, 0)) rfl trivial ?_
          refine hx_add (l := 63) rfl rfl (fun z83 h84 => ?_)
          replace h84 := h84 (by omega) (by omega)
          refine hx_is (s := 32) (l := 64) rfl rfl rfl hw64 hG30 ((hx_kr m66 (hx_mem hG30 (by decide))).trans g32) (by omega) (by omega) (hx_sg1 (fun _ _ _ => ⟨by omega, by omega⟩) (hx_sg1 (fun _ _ _ => ⟨by omega, by omega⟩) (hx_sg1 (fun _ _ _ => ⟨by omega, by omega⟩) (hx_sg1 (fun _ _ _ => ⟨by omega, by omega⟩) (hx_sg1 (fun _ _ _ => ⟨by omega, by omega⟩) (hx_sg1 (fun _ _ _ => ⟨by omega, by omega⟩) (hx_sg1 (fun _ _ _ => ⟨by omega, by omega⟩) (hx_sg1 (fun _ _ _ => ⟨by omega, by omega⟩) (hx_sg1 (fun _ _ _ => ⟨by omega, by omega⟩) hx_sg0))))))))) (fun w85 f86 g87 e88 o89 n90 hw91 n92 => ?_)
          have hs93 := ty_same_tr hs67 (n92 fz (hx_ok hfz (by decide)))
          have kp95 := hf65.1.1 _ _ hG30 ((hx_kr m66 (hx_mem hG30 (by decide))).trans g32)
          have kq96 : kb z77.toInt.toNat z83.toInt := ⟨⟨fun _ => by omega, fun _ _ _ => by omega, fun _ _ _ => by omega, fun _ => by omega⟩, fun _ _ => by omega, fun _ _ _ => by omega, fun _ => by omega, fun _ => by omega, fun _ => by omega, fun _ => by omega, fun _ => by omega, fun _ _ => by omega⟩
          have hf94 : F9 G F w85 := ⟨FM_k hf65.1 hG30 g87 n90 (KP_up kp95 o89 (by rw [e88]; exact kq96) (by omega)), hF _ _ (smt_k (n92 prM (by decide)) ((hx_kr m66 (hx_mem hG30 (by decide))).trans g32) g87 n90 (fun j hj => o89 j (by omega))) hf65.2⟩
          refine ax_go 1 (y := (65, [some (.ref o), some (.int p), some (.int by1)], [.ref o], w85, 0, 0)) rfl trivial ?_
          refine hx_gf (l := 68) rfl rfl rfl ((n90 _ (hx_ne hG0 hG30 (by decide))).trans g73) ((hx_kf m66 (hx_mem hG0 (by decide)) g17 g73).trans e29) ?_
          refine hx_k (l := 69) (m := 0) rfl rfl (by decide) (fun z97 h98 => ?_)
          refine ax_go 1 (y := (70, [some (.ref o), some (.int p), some (.int by1)], [.int p, .int z97, .ref p28], w85, 0, 0)) rfl trivial ?_
          refine hx_add (l := 71) rfl rfl (fun z99 h100 => ?_)
          replace h100 := h100 (by omega) (by omega)
          have r101 := hx_rq hw91 g87 hG30 (s := 32) rfl
          refine hx_il (l := 72) rfl rfl g87 (by omega) (by omega) (fun z102 h103 => ?_)
          have b104 := ((hf94.1.1 _ _ hG30 g87).1 z99.toInt.toNat (by omega)).1.1 (by omega)
          rw [← h103] at b104
          exact ax_ret rfl rfl trivial ⟨some (.int z102), _, rfl, hw91, hf94, hs93, (hx_ti (G := G) (lo := (-3)) (hi := 999) (by omega) (by omega)), trivial⟩
        · -- 44
          clear u59
          refine hx_k (l := 46) (m := (-3)) rfl rfl (by decide) (fun z105 h106 => ?_)
          exact ax_ret rfl rfl trivial ⟨some (.int z105), _, rfl, hw, hf, (ty_same_rf w), (hx_ti (G := G) (lo := (-3)) (hi := 999) (by omega) (by omega)), trivial⟩
      · -- 21
        clear u34
        refine hx_k (l := 23) (m := (-2)) rfl rfl (by decide) (fun z107 h108 => ?_)
        exact ax_ret rfl rfl trivial ⟨some (.int z107), _, rfl, hw, hf, (ty_same_rf w), (hx_ti (G := G) (lo := (-3)) (hi := 999) (by omega) (by omega)), trivial⟩
    · -- 11
      clear u14
      refine hx_k (l := 12) (m := (-1)) rfl rfl (by decide) (fun z109 h110 => ?_)
      exact ax_ret rfl rfl trivial ⟨some (.int z109), _, rfl, hw, hf, (ty_same_rf w), (hx_ti (G := G) (lo := (-3)) (hi := 999) (by omega) (by omega)), trivial⟩
def fb_X9_lendsKept : List (Nat × Nat) := [(8, 3), (8, 5), (19, 999), (33, 999), (34, 999), (35, 999), (45, 999), (1, 0), (18, 999), (2, 11), (2, 14), (1, 15), (54, 11), (4, 2), (7, 9), (30, 13), (30, 2), (30, 22), (30, 23), (30, 24), (30, 25), (46, 999), (47, 999), (30, 35), (30, 36), (7, 0), (24, 999), (37, 999), (30, 4), (30, 5), (30, 6), (30, 8), (30, 9), (30, 10), (30, 11), (30, 14), (30, 15), (30, 16), (30, 17), (30, 18), (30, 19), (30, 20), (30, 21), (39, 999), (40, 999), (41, 999), (30, 30), (30, 42), (30, 43), (30, 44), (1, 1), (1, 3), (1, 10), (1, 13), (8, 0), (30, 49), (2, 15), (8, 1)]
set_option maxHeartbeats 8000000 in
theorem h_X9_lendsKept {ro : ab_R} {G : Nat → Nat} {fz : List (Nat × Nat)} {F : ab_W → Prop} (hF : ∀ w w', smt G w w' → F w → F w') (hfz : ∀ q ∈ fz, q ∈ fb_X9_lendsKept) (d : Nat) : ck_ct ro sp_ G (F9 G F) fz (ab_Ev ro ab_codes (d + 3)) 201 [(2, 30, 0), (0, (-2147483648), 2147483647), (0, (-2147483648), 2147483647), (0, (-2147483648), 2147483647)] (some (0, (-3), 999)) 0 0 := by
  have hFF := F9_same hF
  refine ck_hand (d := d + 2) (by decide) (fun as w hw hf has => ?_)
  match as, has with
  | [v0, v1, v2, v3], ⟨h0, h1, h2, h3, _⟩ =>
    obtain ⟨o, rfl, _, hG0⟩ := ty_refn h0 rfl rfl
    replace hG0 : G o = 30 := hG0
    obtain ⟨a, rfl, hl1, hh1⟩ := ty_int h1 rfl
    replace hl1 : ((-2147483648) : Int) ≤ a.toInt := hl1
    replace hh1 : a.toInt ≤ 2147483647 := hh1
    obtain ⟨b, rfl, hl2, hh2⟩ := ty_int h2 rfl
    replace hl2 : ((-2147483648) : Int) ≤ b.toInt := hl2
    replace hh2 : b.toInt ≤ 2147483647 := hh2
    obtain ⟨mn, rfl, hl3, hh3⟩ := ty_int h3 rfl
    replace hl3 : ((-2147483648) : Int) ≤ mn.toInt := hl3
    replace hh3 : mn.toInt ≤ 2147483647 := hh3
    refine ⟨rfl, ?_⟩
    change ab_wp ro (ab_Ev ro ab_codes (d + 2)) 9 false (some .int) ab_k_X9_lendsKept (fun o_1 => ∃ v w1, o_1 = (v, w1, 0, 0) ∧ ty_w sp_ G w1 ∧ (F9 G F) w1 ∧ ty_same G fz w w1 ∧ ck_res G (some (0, (-3), 999)) v ∧ ck_wit 0 0 [.ref o, .int a, .int b, .int mn] v) (0, [some (.ref o), some (.int a), some (.int b), some (.int mn)], [], w, 0, 0)
    refine ax_go 1 (y := (1, [some (.ref o), some (.int a), some (.int b), some (.int mn)], [.int mn], w, 0, 0)) rfl trivial ?_
    refine hx_k (l := 2) (m := 1) rfl rfl (by decide) (fun z1 h2 => ?_)
    refine hx_k (l := 4) (m := 99) rfl rfl (by decide) (fun z3 h4 => ?_)
    refine hx_pi (l := 7) (as := [.int mn, .int z1, .int z3]) rfl rfl rfl (hp_X9_lies (fz := fz) hFF (fun q hq => (by decide +kernel : ∀ q ∈ fb_X9_lendsKept, q ∈ fb_hp_X9_lies) q (hfz q hq)) (d + 1)) hw hf ⟨(ck_top_ok (G := G) mn), (ck_top_ok (G := G) z1), (ck_top_ok (G := G) z3), trivial⟩ trivial (fun w5 z10 hw6 hf7 m8 a11 b12 u13 => ?_)
    rw [u13.1]
    have u14 := u13.2 _ _ _ _ rfl rfl
    clear u13
    refine hx_if_ne (l := 10) rfl rfl (fun h15 => ?_) (fun h15 => ?_)
    · -- 12
      replace u14 := u14.1 (by omega)
      refine ax_go 2 (y := (14, [some (.ref o), some (.int a), some (.int b), some (.int mn)], [.int a, .ref o], w, 0, 0)) rfl trivial ?_
      obtain ⟨fs16, g17, -, q18⟩ := hx_obj hw hG0 (s := 30) rfl (by decide)
      refine hx_pi (l := 17) (as := [.ref o, .int a]) rfl rfl (hx_iv (j := 133) (n := 1) (o := o) (r := []) rfl rfl g17 rfl) (hp_X9_isParish (fz := fz) hF (fun q hq => (by decide +kernel : ∀ q ∈ fb_X9_lendsKept, q ∈ fb_hp_X9_isParish) q (hfz q hq)) (d + 0)) hw hf ⟨(hx_tr (G := G) (s := 30) (b := 0) hG0 (by decide)), (ck_top_ok (G := G) a), trivial⟩ trivial (fun w19 z24 hw20 hf21 m22 a25 b26 u27 => ?_)
      rw [u27.1]
      obtain ⟨p28, e29, hG30⟩ := hx_fr (k := 2) (s := 32) q18 rfl
      obtain ⟨f31, g32, r33⟩ := hx_row hw hG30 (s := 32) (kd := 0) (n := 5721) rfl (by decide)
      have u34 := u27.2 _ _ _ _ _ rfl ⟨_, g17, e29⟩ g32 rfl
      clear u27
      have b35 := ((hf.1.1 _ _ hG30 g32).1 110 (by decide)).2.2.2.2.1 rfl
      refine hx_if_eq (l := 20) rfl rfl (fun h36 => ?_) (fun h36 => ?_)
      · -- 28
        clear u34
        refine hx_k (l := 30) (m := (-2)) rfl rfl (by decide) (fun z37 h38 => ?_)
        exact ax_ret rfl rfl trivial ⟨some (.int z37), _, rfl, hw, hf, (ty_same_rf w), (hx_ti (G := G) (lo := (-3)) (hi := 999) (by omega) (by omega)), trivial⟩
      · -- 20
        replace u34 := u34.1 (by omega)
        refine ax_go 2 (y := (22, [some (.ref o), some (.int a), some (.int b), some (.int mn)], [.int b, .ref o], w, 0, 0)) rfl trivial ?_
        refine hx_pi (l := 25) (as := [.ref o, .int b]) rfl rfl (hx_iv (j := 133) (n := 1) (o := o) (r := []) rfl rfl g17 rfl) (hp_X9_isParish (fz := fz) hF (fun q hq => (by decide +kernel : ∀ q ∈ fb_X9_lendsKept, q ∈ fb_hp_X9_isParish) q (hfz q hq)) (d + 0)) hw hf ⟨(hx_tr (G := G) (s := 30) (b := 0) hG0 (by decide)), (ck_top_ok (G := G) b), trivial⟩ trivial (fun w39 z44 hw40 hf41 m42 a45 b46 u47 => ?_)
        rw [u47.1]
        have u48 := u47.2 _ _ _ _ _ rfl ⟨_, g17, e29⟩ g32 rfl
        clear u47
        refine hx_if_ne (l := 28) rfl rfl (fun h49 => ?_) (fun h49 => ?_)
        · -- 31
          replace u48 := u48.1 (by omega)
          refine ax_go 3 (y := (34, [some (.ref o), some (.int a), some (.int b), some (.int mn)], [.int b, .int a, .ref o], w, 0, 0)) rfl trivial ?_
          refine hx_pi (l := 37) (as := [.ref o, .int a, .int b]) rfl rfl (hx_iv (j := 200) (n := 2) (o := o) (r := []) rfl rfl g17 rfl) (hp_X9_areBeside (fz := fz) hF (fun q hq => (by decide +kernel : ∀ q ∈ fb_X9_lendsKept, q ∈ fb_hp_X9_areBeside) q (hfz q hq)) (d + 1)) hw hf ⟨(hx_tr (G := G) (s := 30) (b := 0) hG0 (by decide)), (hx_ti (G := G) (lo := 0) (hi := 9) (by omega) (by omega)), (hx_ti (G := G) (lo := 0) (hi := 9) (by omega) (by omega)), trivial⟩ trivial (fun w50 z55 hw51 hf52 m53 a56 b57 u58 => ?_)
          rw [u58.1]
          refine hx_if_eq (l := 40) rfl rfl (fun h59 => ?_) (fun h59 => ?_)
          · -- 68
            refine hx_k (l := 70) (m := (-3)) rfl rfl (by decide) (fun z60 h61 => ?_)
            exact ax_ret rfl rfl trivial ⟨some (.int z60), _, rfl, hw, hf, (ty_same_rf w), (hx_ti (G := G) (lo := (-3)) (hi := 999) (by omega) (by omega)), trivial⟩
          · -- 40
            refine ax_go 1 (y := (41, [some (.ref o), some (.int a), some (.int b), some (.int mn)], [.ref o], w, 0, 0)) rfl trivial ?_
            refine hx_gf (l := 44) rfl rfl rfl g17 e29 ?_
            refine hx_k (l := 45) (m := 0) rfl rfl (by decide) (fun z62 h63 => ?_)
            refine ax_go 1 (y := (46, [some (.ref o), some (.int a), some (.int b), some (.int mn)], [.int a, .int z62, .ref p28], w, 0, 0)) rfl trivial ?_
            refine hx_add (l := 47) rfl rfl (fun z64 h65 => ?_)
            replace h65 := h65 (by omega) (by omega)
            refine hx_il (l := 48) rfl rfl g32 (by omega) (by omega) (fun z66 h67 => ?_)
            have b68 := ((hf.1.1 _ _ hG30 g32).1 z64.toInt.toNat (by omega)).1.1 (by omega)
            rw [← h67] at b68
            refine ax_go 1 (y := (49, [some (.ref o), some (.int a), some (.int b), some (.int mn)], [.int mn, .int z66], w, 0, 0)) rfl trivial ?_
            refine hx_ic_lt (l := 52) rfl rfl (fun h69 => ?_) (fun h69 => ?_)
            · -- 68
              refine hx_k (l := 70) (m := (-3)) rfl rfl (by decide) (fun z70 h71 => ?_)
              exact ax_ret rfl rfl trivial ⟨some (.int z70), _, rfl, hw, hf, (ty_same_rf w), (hx_ti (G := G) (lo := (-3)) (hi := 999) (by omega) (by omega)), trivial⟩
            · -- 52
              refine ax_go 1 (y := (53, [some (.ref o), some (.int a), some (.int b), some (.int mn)], [.ref o], w, 0, 0)) rfl trivial ?_
              refine hx_gf (l := 56) rfl rfl rfl g17 e29 ?_
              refine hx_k (l := 57) (m := 0) rfl rfl (by decide) (fun z72 h73 => ?_)
              refine ax_go 1 (y := (58, [some (.ref o), some (.int a), some (.int b), some (.int mn)], [.int b, .int z72, .ref p28], w, 0, 0)) rfl trivial ?_
              refine hx_add (l := 59) rfl rfl (fun z74 h75 => ?_)
              replace h75 := h75 (by omega) (by omega)
              refine hx_il (l := 60) rfl rfl g32 (by omega) (by omega) (fun z76 h77 => ?_)
              have b78 := ((hf.1.1 _ _ hG30 g32).1 z74.toInt.toNat (by omega)).1.1 (by omega)
              rw [← h77] at b78
              refine ax_go 1 (y := (61, [some (.ref o), some (.int a), some (.int b), some (.int mn)], [.int mn, .int z76], w, 0, 0)) rfl trivial ?_
              refine hx_add (l := 62) rfl rfl (fun z79 h80 => ?_)
              replace h80 := h80 (by omega) (by omega)
              refine hx_k (l := 65) (m := 999) rfl rfl (by decide) (fun z81 h82 => ?_)
              refine hx_ic_le (l := 68) rfl rfl (fun h83 => ?_) (fun h83 => ?_)
              · -- 71
                refine ax_go 1 (y := (72, [some (.ref o), some (.int a), some (.int b), some (.int mn)], [.ref o], w, 0, 0)) rfl trivial ?_
                refine hx_k (l := 73) (m := 2) rfl rfl (by decide) (fun z84 h85 => ?_)
                refine hx_c0 (l := 76) (as := [.ref o, .int z84]) rfl rfl (hx_iv (j := 195) (n := 1) (o := o) (r := []) rfl rfl g17 rfl) (h_X9_keeps (fz := ([(32, 999), (30, 2)] ++ fz)) hF (hx_app (by decide +kernel) (fun q hq => (by decide +kernel : ∀ q ∈ fb_X9_lendsKept, q ∈ fb_X9_keeps) q (hfz q hq))) (d + 1)) hw hf ⟨(hx_tr (G := G) (s := 30) (b := 0) hG0 (by decide)), (ck_top_ok (G := G) z84), trivial⟩ (fun w86 hw87 hf88 m89 => ?_)
                have hs90 := ty_same_tr (ty_same_rf w) (hx_sapp m89)
                obtain ⟨fs95, g96, -, q97⟩ := hx_obj hw87 hG0 (s := 30) rfl (by decide)
                refine ax_go 1 (y := (77, [some (.ref o), some (.int a), some (.int b), some (.int mn)], [.ref o], w86, 0, 0)) rfl trivial ?_
                refine hx_gf (l := 80) rfl rfl rfl g96 ((hx_kf m89 (hx_mem hG0 (by decide)) g17 g96).trans e29) ?_
                refine hx_k (l := 81) (m := 0) rfl rfl (by decide) (fun z98 h99 => ?_)
                refine ax_go 1 (y := (82, [some (.ref o), some (.int a), some (.int b), some (.int mn)], [.int a, .int z98, .ref p28], w86, 0, 0)) rfl trivial ?_
                refine hx_add (l := 83) rfl rfl (fun z100 h101 => ?_)
                replace h101 := h101 (by omega) (by omega)
                refine ax_go 1 (y := (84, [some (.ref o), some (.int a), some (.int b), some (.int mn)], [.int z100, .ref p28, .int z100, .ref p28], w86, 0, 0)) rfl trivial ?_
                refine hx_il (l := 85) rfl rfl ((hx_kr m89 (hx_mem hG30 (by decide))).trans g32) (by omega) (by omega) (fun z102 h103 => ?_)
                have b104 := ((hf88.1.1 _ _ hG30 ((hx_kr m89 (hx_mem hG30 (by decide))).trans g32)).1 z100.toInt.toNat (by omega)).1.1 (by omega)
                rw [← h103] at b104
                have b105 : z102.toInt = z66.toInt := by rw [h103, h67, show z100.toInt.toNat = z64.toInt.toNat by omega]
                refine ax_go 1 (y := (86, [some (.ref o), some (.int a), some (.int b), some (.int mn)], [.int mn, .int z102, .int z100, .ref p28], w86, 0, 0)) rfl trivial ?_
                refine hx_sub (l := 87) rfl rfl (fun z106 h107 => ?_)
                replace h107 := h107 (by omega) (by omega)
                refine hx_is (s := 32) (l := 88) rfl rfl rfl hw87 hG30 ((hx_kr m89 (hx_mem hG30 (by decide))).trans g32) (by omega) (by omega) (hx_sg1 (fun _ _ _ => ⟨by omega, by omega⟩) (hx_sg1 (fun _ _ _ => ⟨by omega, by omega⟩) (hx_sg1 (fun _ _ _ => ⟨by omega, by omega⟩) (hx_sg1 (fun _ _ _ => ⟨by omega, by omega⟩) (hx_sg1 (fun _ _ _ => ⟨by omega, by omega⟩) (hx_sg1 (fun _ _ _ => ⟨by omega, by omega⟩) (hx_sg1 (fun _ _ _ => ⟨by omega, by omega⟩) (hx_sg1 (fun _ _ _ => ⟨by omega, by omega⟩) (hx_sg1 (fun _ _ _ => ⟨by omega, by omega⟩) hx_sg0))))))))) (fun w108 f109 g110 e111 o112 n113 hw114 n115 => ?_)
                have hs116 := ty_same_tr hs90 (n115 fz (hx_ok hfz (by decide)))
                have kp118 := hf88.1.1 _ _ hG30 ((hx_kr m89 (hx_mem hG30 (by decide))).trans g32)
                have kq119 : kb z100.toInt.toNat z106.toInt := ⟨⟨fun _ => by omega, fun _ _ _ => by omega, fun _ _ _ => by omega, fun _ => by omega⟩, fun _ _ => by omega, fun _ _ _ => by omega, fun _ => by omega, fun _ => by omega, fun _ => by omega, fun _ => by omega, fun _ => by omega, fun _ _ => by omega⟩
                have hf117 : F9 G F w108 := ⟨FM_k hf88.1 hG30 g110 n113 (KP_up kp118 o112 (by rw [e111]; exact kq119) (by omega)), hF _ _ (smt_k (n115 prM (by decide)) ((hx_kr m89 (hx_mem hG30 (by decide))).trans g32) g110 n113 (fun j hj => o112 j (by omega))) hf88.2⟩
                refine ax_go 1 (y := (89, [some (.ref o), some (.int a), some (.int b), some (.int mn)], [.ref o], w108, 0, 0)) rfl trivial ?_
                refine hx_gf (l := 92) rfl rfl rfl ((n113 _ (hx_ne hG0 hG30 (by decide))).trans g96) ((hx_kf m89 (hx_mem hG0 (by decide)) g17 g96).trans e29) ?_
                refine hx_k (l := 93) (m := 0) rfl rfl (by decide) (fun z120 h121 => ?_)
                refine ax_go 1 (y := (94, [some (.ref o), some (.int a), some (.int b), some (.int mn)], [.int b, .int z120, .ref p28], w108, 0, 0)) rfl trivial ?_
                refine hx_add (l := 95) rfl rfl (fun z122 h123 => ?_)
                replace h123 := h123 (by omega) (by omega)
                refine ax_go 1 (y := (96, [some (.ref o), some (.int a), some (.int b), some (.int mn)], [.int z122, .ref p28, .int z122, .ref p28], w108, 0, 0)) rfl trivial ?_
                have r124 := hx_rq hw114 g110 hG30 (s := 32) rfl
                refine hx_il (l := 97) rfl rfl g110 (by omega) (by omega) (fun z125 h126 => ?_)
                have b127 := ((hf117.1.1 _ _ hG30 g110).1 z122.toInt.toNat (by omega)).1.1 (by omega)
                rw [← h126] at b127
                have b128 : z125.toInt = z76.toInt ∨ z125.toInt = z102.toInt - mn.toInt := by
                  by_cases zz : z122.toInt.toNat = z100.toInt.toNat
                  · right; rw [h126, zz, e111]; omega
                  · left; rw [h126, o112 _ zz, h77, show z122.toInt.toNat = z74.toInt.toNat by omega]
                refine ax_go 1 (y := (98, [some (.ref o), some (.int a), some (.int b), some (.int mn)], [.int mn, .int z125, .int z122, .ref p28], w108, 0, 0)) rfl trivial ?_
                refine hx_add (l := 99) rfl rfl (fun z129 h130 => ?_)
                replace h130 := h130 (by omega) (by omega)
                refine hx_is (s := 32) (l := 100) rfl rfl rfl hw114 hG30 g110 (by omega) (by omega) (hx_sg1 (fun _ _ _ => ⟨by omega, by omega⟩) (hx_sg1 (fun _ _ _ => ⟨by omega, by omega⟩) (hx_sg1 (fun _ _ _ => ⟨by omega, by omega⟩) (hx_sg1 (fun _ _ _ => ⟨by omega, by omega⟩) (hx_sg1 (fun _ _ _ => ⟨by omega, by omega⟩) (hx_sg1 (fun _ _ _ => ⟨by omega, by omega⟩) (hx_sg1 (fun _ _ _ => ⟨by omega, by omega⟩) (hx_sg1 (fun _ _ _ => ⟨by omega, by omega⟩) (hx_sg1 (fun _ _ _ => ⟨by omega, by omega⟩) hx_sg0))))))))) (fun w131 f132 g133 e134 o135 n136 hw137 n138 => ?_)
                have hs139 := ty_same_tr hs116 (n138 fz (hx_ok hfz (by decide)))
                have kp141 := hf117.1.1 _ _ hG30 g110
                have kq142 : kb z122.toInt.toNat z129.toInt := ⟨⟨fun _ => by omega, fun _ _ _ => by omega, fun _ _ _ => by omega, fun _ => by omega⟩, fun _ _ => by omega, fun _ _ _ => by omega, fun _ => by omega, fun _ => by omega, fun _ => by omega, fun _ => by omega, fun _ => by omega, fun _ _ => by omega⟩
                have hf140 : F9 G F w131 := ⟨FM_k hf117.1 hG30 g133 n136 (KP_up kp141 o135 (by rw [e134]; exact kq142) (by omega)), hF _ _ (smt_k (n138 prM (by decide)) g110 g133 n136 (fun j hj => o135 j (by omega))) hf117.2⟩
                refine ax_go 1 (y := (101, [some (.ref o), some (.int a), some (.int b), some (.int mn)], [.ref o], w131, 0, 0)) rfl trivial ?_
                refine hx_gf (l := 104) rfl rfl rfl ((n136 _ (hx_ne hG0 hG30 (by decide))).trans ((n113 _ (hx_ne hG0 hG30 (by decide))).trans g96)) ((hx_kf m89 (hx_mem hG0 (by decide)) g17 g96).trans e29) ?_
                refine hx_k (l := 105) (m := 0) rfl rfl (by decide) (fun z143 h144 => ?_)
                refine ax_go 1 (y := (106, [some (.ref o), some (.int a), some (.int b), some (.int mn)], [.int a, .int z143, .ref p28], w131, 0, 0)) rfl trivial ?_
                refine hx_add (l := 107) rfl rfl (fun z145 h146 => ?_)
                replace h146 := h146 (by omega) (by omega)
                have r147 := hx_rq hw137 g133 hG30 (s := 32) rfl
                refine hx_il (l := 108) rfl rfl g133 (by omega) (by omega) (fun z148 h149 => ?_)
                have b150 := ((hf140.1.1 _ _ hG30 g133).1 z145.toInt.toNat (by omega)).1.1 (by omega)
                rw [← h149] at b150
                exact ax_ret rfl rfl trivial ⟨some (.int z148), _, rfl, hw137, hf140, hs139, (hx_ti (G := G) (lo := (-3)) (hi := 999) (by omega) (by omega)), trivial⟩
              · -- 68
                refine hx_k (l := 70) (m := (-3)) rfl rfl (by decide) (fun z151 h152 => ?_)
                exact ax_ret rfl rfl trivial ⟨some (.int z151), _, rfl, hw, hf, (ty_same_rf w), (hx_ti (G := G) (lo := (-3)) (hi := 999) (by omega) (by omega)), trivial⟩
        · -- 28
          clear u48
          refine hx_k (l := 30) (m := (-2)) rfl rfl (by decide) (fun z153 h154 => ?_)
          exact ax_ret rfl rfl trivial ⟨some (.int z153), _, rfl, hw, hf, (ty_same_rf w), (hx_ti (G := G) (lo := (-3)) (hi := 999) (by omega) (by omega)), trivial⟩
    · -- 10
      clear u14
      refine hx_k (l := 11) (m := (-1)) rfl rfl (by decide) (fun z155 h156 => ?_)
      exact ax_ret rfl rfl trivial ⟨some (.int z155), _, rfl, hw, hf, (ty_same_rf w), (hx_ti (G := G) (lo := (-3)) (hi := 999) (by omega) (by omega)), trivial⟩
def fb_X9_dayPasses : List (Nat × Nat) := [(8, 3), (8, 5), (19, 999), (33, 999), (34, 999), (35, 999), (44, 999), (45, 999), (1, 0), (18, 999), (2, 11), (2, 14), (1, 15), (54, 11), (4, 2), (7, 9), (30, 13), (30, 34), (30, 2), (30, 22), (30, 23), (30, 24), (30, 25), (46, 999), (47, 999), (30, 35), (30, 36), (7, 0), (24, 999), (37, 999), (30, 4), (30, 5), (30, 6), (30, 8), (30, 9), (30, 10), (30, 11), (30, 14), (30, 15), (30, 16), (30, 17), (30, 18), (30, 19), (30, 20), (30, 21), (39, 999), (40, 999), (41, 999), (30, 30), (30, 42), (30, 43), (30, 44), (1, 1), (1, 3), (1, 10), (1, 13), (8, 0), (30, 49), (2, 15), (8, 1)]
set_option maxHeartbeats 8000000 in
theorem h_X9_dayPasses {ro : ab_R} {G : Nat → Nat} {fz : List (Nat × Nat)} {F : ab_W → Prop} (hF : ∀ w w', smt G w w' → F w → F w') (hfz : ∀ q ∈ fz, q ∈ fb_X9_dayPasses) (d : Nat) : ck_ct ro sp_ G (F9 G F) fz (ab_Ev ro ab_codes (d + 3)) 194 [(2, 30, 0)] (some (0, 0, 2147483647)) 0 0 := by
  have hFF := F9_same hF
  refine ck_hand (d := d + 2) (by decide) (fun as w hw hf has => ?_)
  match as, has with
  | [v0], ⟨h0, _⟩ =>
    obtain ⟨o, rfl, _, hG0⟩ := ty_refn h0 rfl rfl
    replace hG0 : G o = 30 := hG0
    refine ⟨rfl, ?_⟩
    have ct137 : ∀ (nq : Nat) (w1 : ab_W) (sm4 : Int32) (lf4 : Int32) (k4 : Int32) (u44 : Option Int32) (u54 : Option Int32), ty_w sp_ G w1 → (F9 G F) w1 → ty_same G fz w w1 → (0 ≤ sm4.toInt) → (sm4.toInt ≤ 2000) → (0 ≤ lf4.toInt) → (lf4.toInt ≤ 16) → (0 ≤ k4.toInt) → (k4.toInt ≤ 48) → (49 - k4.toInt).toNat < nq → ab_wp ro (ab_Ev ro ab_codes (d + 2)) 9 false (some .int) ab_k_X9_dayPasses (fun o_1 => ∃ v w1, o_1 = (v, w1, 0, 0) ∧ ty_w sp_ G w1 ∧ (F9 G F) w1 ∧ ty_same G fz w w1 ∧ ck_res G (some (0, 0, 2147483647)) v ∧ ck_wit 0 0 [.ref o] v) (137, [some (.ref o), some (.int sm4), some (.int lf4), some (.int k4), (u44.map Value.int), (u54.map Value.int)], [], w1, 0, 0) := by
      intro nq
      induction nq with
      | zero => intro w1 sm4 lf4 k4 u44 u54 hw8 hf9 hs10 i2 i3 i4 i5 i6 i7 hm; exact absurd hm (Nat.not_lt_zero _)
      | succ nq ih137 =>
        intro w1 sm4 lf4 k4 u44 u54 hw8 hf9 hs10 i2 i3 i4 i5 i6 i7 hm137
        refine ax_go 1 (y := (138, [some (.ref o), some (.int sm4), some (.int lf4), some (.int k4), (u44.map Value.int), (u54.map Value.int)], [.int k4], w1, 0, 0)) rfl trivial ?_
        refine hx_k (l := 140) (m := 48) rfl rfl (by decide) (fun z11 h12 => ?_)
        refine hx_ic_ge (l := 143) rfl rfl (fun h13 => ?_) (fun h13 => ?_)
        · -- 159
          refine ax_go 1 (y := (160, [some (.ref o), some (.int sm4), some (.int lf4), some (.int k4), (u44.map Value.int), (u54.map Value.int)], [.ref o], w1, 0, 0)) rfl trivial ?_
          obtain ⟨fs14, g15, -, q16⟩ := hx_obj hw8 hG0 (s := 30) rfl (by decide)
          obtain ⟨p17, e18, hG19⟩ := hx_fr (k := 2) (s := 32) q16 rfl
          refine hx_gf (l := 163) rfl rfl rfl g15 e18 ?_
          refine hx_k (l := 165) (m := 68) rfl rfl (by decide) (fun z20 h21 => ?_)
          refine ax_go 1 (y := (166, [some (.ref o), some (.int sm4), some (.int lf4), some (.int k4), (u44.map Value.int), (u54.map Value.int)], [.int lf4, .int z20, .ref p17], w1, 0, 0)) rfl trivial ?_
          obtain ⟨f22, g23, r24⟩ := hx_row hw8 hG19 (s := 32) (kd := 0) (n := 5721) rfl (by decide)
          refine hx_is (s := 32) (l := 167) rfl rfl rfl hw8 hG19 g23 (by omega) (by omega) (hx_sg1 (fun _ _ _ => ⟨by omega, by omega⟩) (hx_sg1 (fun _ _ _ => ⟨by omega, by omega⟩) (hx_sg1 (fun _ _ _ => ⟨by omega, by omega⟩) (hx_sg1 (fun _ _ _ => ⟨by omega, by omega⟩) (hx_sg1 (fun _ _ _ => ⟨by omega, by omega⟩) (hx_sg1 (fun _ _ _ => ⟨by omega, by omega⟩) (hx_sg1 (fun _ _ _ => ⟨by omega, by omega⟩) (hx_sg1 (fun _ _ _ => ⟨by omega, by omega⟩) (hx_sg1 (fun _ _ _ => ⟨by omega, by omega⟩) hx_sg0))))))))) (fun w25 f26 g27 e28 o29 n30 hw31 n32 => ?_)
          have hs33 := ty_same_tr hs10 (n32 fz (hx_ok hfz (by decide)))
          have kp35 := hf9.1.1 _ _ hG19 g23
          have kq36 : kb z20.toInt.toNat lf4.toInt := ⟨⟨fun _ => by omega, fun _ _ _ => by omega, fun _ _ _ => by omega, fun _ => by omega⟩, fun _ _ => by omega, fun _ _ _ => by omega, fun _ => by omega, fun _ => by omega, fun _ => by omega, fun _ => by omega, fun _ => by omega, fun _ _ => by omega⟩
          have hf34 : F9 G F w25 := ⟨FM_k hf9.1 hG19 g27 n30 (KP_up kp35 o29 (by rw [e28]; exact kq36) (by omega)), hF _ _ (smt_k (n32 prM (by decide)) g23 g27 n30 (fun j hj => o29 j (by omega))) hf9.2⟩
          refine ax_go 1 (y := (168, [some (.ref o), some (.int sm4), some (.int lf4), some (.int k4), (u44.map Value.int), (u54.map Value.int)], [.ref o], w25, 0, 0)) rfl trivial ?_
          refine hx_gf (l := 171) rfl rfl rfl ((n30 _ (hx_ne hG0 hG19 (by decide))).trans g15) e18 ?_
          refine hx_k (l := 173) (m := 70) rfl rfl (by decide) (fun z37 h38 => ?_)
          refine ax_go 1 (y := (174, [some (.ref o), some (.int sm4), some (.int lf4), some (.int k4), (u44.map Value.int), (u54.map Value.int)], [.int z37, .ref p17, .int z37, .ref p17], w25, 0, 0)) rfl trivial ?_
          have r39 := hx_rq hw31 g27 hG19 (s := 32) rfl
          refine hx_il (l := 175) rfl rfl g27 (by omega) (by omega) (fun z40 h41 => ?_)
          refine hx_k (l := 176) (m := 1) rfl rfl (by decide) (fun z42 h43 => ?_)
          refine hx_add (l := 177) rfl rfl (fun z44 h45 => ?_)
          refine hx_is (s := 32) (l := 178) rfl rfl rfl hw31 hG19 g27 (by omega) (by omega) (hx_sg1 (fun _ _ _ => ⟨by omega, by omega⟩) (hx_sg1 (fun _ _ _ => ⟨by omega, by omega⟩) (hx_sg1 (fun _ _ _ => ⟨by omega, by omega⟩) (hx_sg1 (fun _ _ _ => ⟨by omega, by omega⟩) (hx_sg1 (fun _ _ _ => ⟨by omega, by omega⟩) (hx_sg1 (fun _ _ _ => ⟨by omega, by omega⟩) (hx_sg1 (fun _ _ _ => ⟨by omega, by omega⟩) (hx_sg1 (fun _ _ _ => ⟨by omega, by omega⟩) (hx_sg1 (fun _ _ _ => ⟨by omega, by omega⟩) hx_sg0))))))))) (fun w46 f47 g48 e49 o50 n51 hw52 n53 => ?_)
          have hs54 := ty_same_tr hs33 (n53 fz (hx_ok hfz (by decide)))
          have kp56 := hf34.1.1 _ _ hG19 g27
          have kq57 : kb z37.toInt.toNat z44.toInt := ⟨⟨fun _ => by omega, fun _ _ _ => by omega, fun _ _ _ => by omega, fun _ => by omega⟩, fun _ _ => by omega, fun _ _ _ => by omega, fun _ => by omega, fun _ => by omega, fun _ => by omega, fun _ => by omega, fun _ => by omega, fun _ _ => by omega⟩
          have hf55 : F9 G F w46 := ⟨FM_k hf34.1 hG19 g48 n51 (KP_up kp56 o50 (by rw [e49]; exact kq57) (by omega)), hF _ _ (smt_k (n53 prM (by decide)) g27 g48 n51 (fun j hj => o50 j (by omega))) hf34.2⟩
          refine ax_go 1 (y := (179, [some (.ref o), some (.int sm4), some (.int lf4), some (.int k4), (u44.map Value.int), (u54.map Value.int)], [.int sm4], w46, 0, 0)) rfl trivial ?_
          exact ax_ret rfl rfl trivial ⟨some (.int sm4), _, rfl, hw52, hf55, hs54, (hx_ti (G := G) (lo := 0) (hi := 2147483647) (by omega) (by omega)), trivial⟩
        · -- 143
          refine ax_go 1 (y := (144, [some (.ref o), some (.int sm4), some (.int lf4), some (.int k4), (u44.map Value.int), (u54.map Value.int)], [.ref o], w1, 0, 0)) rfl trivial ?_
          obtain ⟨fs58, g59, -, q60⟩ := hx_obj hw8 hG0 (s := 30) rfl (by decide)
          obtain ⟨p61, e62, hG63⟩ := hx_fr (k := 2) (s := 32) q60 rfl
          refine hx_gf (l := 147) rfl rfl rfl g59 e62 ?_
          refine hx_k (l := 149) (m := 20) rfl rfl (by decide) (fun z64 h65 => ?_)
          refine ax_go 1 (y := (150, [some (.ref o), some (.int sm4), some (.int lf4), some (.int k4), (u44.map Value.int), (u54.map Value.int)], [.int k4, .int z64, .ref p61], w1, 0, 0)) rfl trivial ?_
          refine hx_add (l := 151) rfl rfl (fun z66 h67 => ?_)
          replace h67 := h67 (by omega) (by omega)
          refine hx_k (l := 152) (m := 0) rfl rfl (by decide) (fun z68 h69 => ?_)
          obtain ⟨f70, g71, r72⟩ := hx_row hw8 hG63 (s := 32) (kd := 0) (n := 5721) rfl (by decide)
          refine hx_is (s := 32) (l := 153) rfl rfl rfl hw8 hG63 g71 (by omega) (by omega) (hx_sg1 (fun _ _ _ => ⟨by omega, by omega⟩) (hx_sg1 (fun _ _ _ => ⟨by omega, by omega⟩) (hx_sg1 (fun _ _ _ => ⟨by omega, by omega⟩) (hx_sg1 (fun _ _ _ => ⟨by omega, by omega⟩) (hx_sg1 (fun _ _ _ => ⟨by omega, by omega⟩) (hx_sg1 (fun _ _ _ => ⟨by omega, by omega⟩) (hx_sg1 (fun _ _ _ => ⟨by omega, by omega⟩) (hx_sg1 (fun _ _ _ => ⟨by omega, by omega⟩) (hx_sg1 (fun _ _ _ => ⟨by omega, by omega⟩) hx_sg0))))))))) (fun w73 f74 g75 e76 o77 n78 hw79 n80 => ?_)
          have hs81 := ty_same_tr hs10 (n80 fz (hx_ok hfz (by decide)))
          have kp83 := hf9.1.1 _ _ hG63 g71
          have kq84 : kb z66.toInt.toNat z68.toInt := ⟨⟨fun _ => by omega, fun _ _ _ => by omega, fun _ _ _ => by omega, fun _ => by omega⟩, fun _ _ => by omega, fun _ _ _ => by omega, fun _ => by omega, fun _ => by omega, fun _ => by omega, fun _ => by omega, fun _ => by omega, fun _ _ => by omega⟩
          have hf82 : F9 G F w73 := ⟨FM_k hf9.1 hG63 g75 n78 (KP_up kp83 o77 (by rw [e76]; exact kq84) (by omega)), hF _ _ (smt_k (n80 prM (by decide)) g71 g75 n78 (fun j hj => o77 j (by omega))) hf9.2⟩
          refine hx_iinc (x := k4) (n := 1) (l := 156) rfl rfl rfl (Nat.le_of_ble_eq_true rfl) (by omega) (by omega) (by decide) (fun z85 h86 => ?_)
          change ab_wp ro (ab_Ev ro ab_codes (d + 2)) 9 false (some .int) ab_k_X9_dayPasses (fun o_1 => ∃ v w1, o_1 = (v, w1, 0, 0) ∧ ty_w sp_ G w1 ∧ (F9 G F) w1 ∧ ty_same G fz w w1 ∧ ck_res G (some (0, 0, 2147483647)) v ∧ ck_wit 0 0 [.ref o] v) (156, [some (.ref o), some (.int sm4), some (.int lf4), some (.int z85), (u44.map Value.int), (u54.map Value.int)], [], w73, 0, 0)
          refine ax_go 1 (y := (137, [some (.ref o), some (.int sm4), some (.int lf4), some (.int z85), (u44.map Value.int), (u54.map Value.int)], [], w73, 0, 0)) rfl trivial ?_
          exact ih137 w73 sm4 lf4 z85 u44 u54 hw79 hf82 hs81 (by omega) (by omega) (by omega) (by omega) (by omega) (by omega) (by omega)
    have ct6 : ∀ (nq : Nat) (w87 : ab_W) (sm : Int32) (lf : Int32) (k : Int32) (u4 : Option Int32) (u5 : Option Int32), ty_w sp_ G w87 → (F9 G F) w87 → ty_same G fz w w87 → (0 ≤ sm.toInt) → (sm.toInt ≤ 98 * k.toInt) → (0 ≤ lf.toInt) → (lf.toInt ≤ k.toInt) → (k.toInt ≤ 16) → (17 - k.toInt).toNat < nq → ab_wp ro (ab_Ev ro ab_codes (d + 2)) 9 false (some .int) ab_k_X9_dayPasses (fun o_1 => ∃ v w1, o_1 = (v, w1, 0, 0) ∧ ty_w sp_ G w1 ∧ (F9 G F) w1 ∧ ty_same G fz w w1 ∧ ck_res G (some (0, 0, 2147483647)) v ∧ ck_wit 0 0 [.ref o] v) (6, [some (.ref o), some (.int sm), some (.int lf), some (.int k), (u4.map Value.int), (u5.map Value.int)], [], w87, 0, 0) := by
      intro nq
      induction nq with
      | zero => intro w87 sm lf k u4 u5 hw93 hf94 hs95 i88 i89 i90 i91 i92 hm; exact absurd hm (Nat.not_lt_zero _)
      | succ nq ih6 =>
        intro w87 sm lf k u4 u5 hw93 hf94 hs95 i88 i89 i90 i91 i92 hm6
        have ct127 : ∀ (w96 : ab_W) (sm2 : Int32) (lf2 : Int32) (k2 : Int32) (a2 : Int32) (u52 : Option Int32), ty_w sp_ G w96 → (F9 G F) w96 → ty_same G fz w w96 → (k2.toInt = k.toInt) → (k.toInt < 16) → (0 ≤ sm2.toInt) → (sm2.toInt ≤ 98 * k.toInt + 98) → (0 ≤ lf2.toInt) → (lf2.toInt ≤ k.toInt + 1) → ab_wp ro (ab_Ev ro ab_codes (d + 2)) 9 false (some .int) ab_k_X9_dayPasses (fun o_1 => ∃ v w1, o_1 = (v, w1, 0, 0) ∧ ty_w sp_ G w1 ∧ (F9 G F) w1 ∧ ty_same G fz w w1 ∧ ck_res G (some (0, 0, 2147483647)) v ∧ ck_wit 0 0 [.ref o] v) (127, [some (.ref o), some (.int sm2), some (.int lf2), some (.int k2), some (.int a2), (u52.map Value.int)], [], w96, 0, 0) := by
          intro w96 sm2 lf2 k2 a2 u52 hw103 hf104 hs105 i97 i98 i99 i100 i101 i102
          refine hx_iinc (x := k2) (n := 1) (l := 130) rfl rfl rfl (Nat.le_of_ble_eq_true rfl) (by omega) (by omega) (by decide) (fun z106 h107 => ?_)
          change ab_wp ro (ab_Ev ro ab_codes (d + 2)) 9 false (some .int) ab_k_X9_dayPasses (fun o_1 => ∃ v w1, o_1 = (v, w1, 0, 0) ∧ ty_w sp_ G w1 ∧ (F9 G F) w1 ∧ ty_same G fz w w1 ∧ ck_res G (some (0, 0, 2147483647)) v ∧ ck_wit 0 0 [.ref o] v) (130, [some (.ref o), some (.int sm2), some (.int lf2), some (.int z106), some (.int a2), (u52.map Value.int)], [], w96, 0, 0)
          refine ax_go 1 (y := (6, [some (.ref o), some (.int sm2), some (.int lf2), some (.int z106), some (.int a2), (u52.map Value.int)], [], w96, 0, 0)) rfl trivial ?_
          exact ih6 w96 sm2 lf2 z106 (some a2) u52 hw103 hf104 hs105 (by omega) (by omega) (by omega) (by omega) (by omega) (by omega)
        have ct88 : ∀ (nq : Nat) (w108 : ab_W) (sm3 : Int32) (lf3 : Int32) (k3 : Int32) (a3 : Int32) (i3 : Int32), ty_w sp_ G w108 → (F9 G F) w108 → ty_same G fz w w108 → (k3.toInt = k.toInt) → (k.toInt < 16) → (0 ≤ sm3.toInt) → (sm3.toInt ≤ 98 * k.toInt) → (0 ≤ lf3.toInt) → (lf3.toInt ≤ k.toInt) → (a3.toInt = 20 + 3 * k.toInt) → (0 ≤ i3.toInt) → (i3.toInt ≤ 3) → (4 - i3.toInt).toNat < nq → ab_wp ro (ab_Ev ro ab_codes (d + 2)) 9 false (some .int) ab_k_X9_dayPasses (fun o_1 => ∃ v w1, o_1 = (v, w1, 0, 0) ∧ ty_w sp_ G w1 ∧ (F9 G F) w1 ∧ ty_same G fz w w1 ∧ ck_res G (some (0, 0, 2147483647)) v ∧ ck_wit 0 0 [.ref o] v) (88, [some (.ref o), some (.int sm3), some (.int lf3), some (.int k3), some (.int a3), some (.int i3)], [], w108, 0, 0) := by
          intro nq
          induction nq with
          | zero => intro w108 sm3 lf3 k3 a3 i3 hw118 hf119 hs120 i109 i110 i111 i112 i113 i114 i115 i116 i117 hm; exact absurd hm (Nat.not_lt_zero _)
          | succ nq ih88 =>
            intro w108 sm3 lf3 k3 a3 i3 hw118 hf119 hs120 i109 i110 i111 i112 i113 i114 i115 i116 i117 hm88
            refine ax_go 1 (y := (90, [some (.ref o), some (.int sm3), some (.int lf3), some (.int k3), some (.int a3), some (.int i3)], [.int i3], w108, 0, 0)) rfl trivial ?_
            refine hx_k (l := 91) (m := 3) rfl rfl (by decide) (fun z121 h122 => ?_)
            refine hx_ic_ge (l := 94) rfl rfl (fun h123 => ?_) (fun h123 => ?_)
            · -- 124
              refine hx_iinc (x := lf3) (n := 1) (l := 127) rfl rfl rfl (Nat.le_of_ble_eq_true rfl) (by omega) (by omega) (by decide) (fun z124 h125 => ?_)
              change ab_wp ro (ab_Ev ro ab_codes (d + 2)) 9 false (some .int) ab_k_X9_dayPasses (fun o_1 => ∃ v w1, o_1 = (v, w1, 0, 0) ∧ ty_w sp_ G w1 ∧ (F9 G F) w1 ∧ ty_same G fz w w1 ∧ ck_res G (some (0, 0, 2147483647)) v ∧ ck_wit 0 0 [.ref o] v) (127, [some (.ref o), some (.int sm3), some (.int z124), some (.int k3), some (.int a3), some (.int i3)], [], w108, 0, 0)
              exact ct127 w108 sm3 z124 k3 a3 (some i3) hw118 hf119 hs120 (by omega) (by omega) (by omega) (by omega) (by omega) (by omega)
            · -- 94
              refine ax_go 1 (y := (95, [some (.ref o), some (.int sm3), some (.int lf3), some (.int k3), some (.int a3), some (.int i3)], [.ref o], w108, 0, 0)) rfl trivial ?_
              obtain ⟨fs126, g127, -, q128⟩ := hx_obj hw118 hG0 (s := 30) rfl (by decide)
              obtain ⟨p129, e130, hG131⟩ := hx_fr (k := 2) (s := 32) q128 rfl
              refine hx_gf (l := 98) rfl rfl rfl g127 e130 ?_
              refine hx_k (l := 100) (m := 20) rfl rfl (by decide) (fun z132 h133 => ?_)
              refine hx_k (l := 101) (m := 3) rfl rfl (by decide) (fun z134 h135 => ?_)
              refine ax_go 1 (y := (102, [some (.ref o), some (.int sm3), some (.int lf3), some (.int k3), some (.int a3), some (.int i3)], [.int lf3, .int z134, .int z132, .ref p129], w108, 0, 0)) rfl trivial ?_
              refine hx_mul (l := 103) rfl rfl (fun z136 h137 => ?_)
              rw [h135] at h137
              replace h137 := h137 (by omega) (by omega)
              refine hx_add (l := 104) rfl rfl (fun z138 h139 => ?_)
              replace h139 := h139 (by omega) (by omega)
              refine ax_go 1 (y := (106, [some (.ref o), some (.int sm3), some (.int lf3), some (.int k3), some (.int a3), some (.int i3)], [.int i3, .int z138, .ref p129], w108, 0, 0)) rfl trivial ?_
              refine hx_add (l := 107) rfl rfl (fun z140 h141 => ?_)
              replace h141 := h141 (by omega) (by omega)
              refine ax_go 1 (y := (108, [some (.ref o), some (.int sm3), some (.int lf3), some (.int k3), some (.int a3), some (.int i3)], [.ref o, .int z140, .ref p129], w108, 0, 0)) rfl trivial ?_
              refine hx_gf (l := 111) rfl rfl rfl g127 e130 ?_
              refine ax_go 2 (y := (115, [some (.ref o), some (.int sm3), some (.int lf3), some (.int k3), some (.int a3), some (.int i3)], [.int i3, .int a3, .ref p129, .int z140, .ref p129], w108, 0, 0)) rfl trivial ?_
              refine hx_add (l := 116) rfl rfl (fun z142 h143 => ?_)
              replace h143 := h143 (by omega) (by omega)
              obtain ⟨f144, g145, r146⟩ := hx_row hw118 hG131 (s := 32) (kd := 0) (n := 5721) rfl (by decide)
              refine hx_il (l := 117) rfl rfl g145 (by omega) (by omega) (fun z147 h148 => ?_)
              have mvq : mv_b z140.toInt.toNat z147.toInt := by
                have y := ((hf119.1.1 _ _ hG131 g145).1 z142.toInt.toNat (by omega)).1
                rw [← h148] at y
                exact mv_cp y (by omega) (by omega) (by omega) (by omega) (by omega)
              refine hx_is (s := 32) (l := 118) rfl rfl rfl hw118 hG131 g145 (by omega) (by omega) (kb_sg (mv_ok mvq (by omega))) (fun w149 f150 g151 e152 o153 n154 hw155 n156 => ?_)
              have hs157 := ty_same_tr hs120 (n156 fz (hx_ok hfz (by decide)))
              have kp159 := hf119.1.1 _ _ hG131 g145
              have hf158 : F9 G F w149 := ⟨FM_k hf119.1 hG131 g151 n154 (KP_up kp159 o153 (by rw [e152]; exact mv_ok mvq (by omega)) (by omega)), hF _ _ (smt_k (n156 prM (by decide)) g145 g151 n154 (fun j hj => o153 j (by omega))) hf119.2⟩
              refine hx_iinc (x := i3) (n := 1) (l := 121) rfl rfl rfl (Nat.le_of_ble_eq_true rfl) (by omega) (by omega) (by decide) (fun z161 h162 => ?_)
              change ab_wp ro (ab_Ev ro ab_codes (d + 2)) 9 false (some .int) ab_k_X9_dayPasses (fun o_1 => ∃ v w1, o_1 = (v, w1, 0, 0) ∧ ty_w sp_ G w1 ∧ (F9 G F) w1 ∧ ty_same G fz w w1 ∧ ck_res G (some (0, 0, 2147483647)) v ∧ ck_wit 0 0 [.ref o] v) (121, [some (.ref o), some (.int sm3), some (.int lf3), some (.int k3), some (.int a3), some (.int z161)], [], w149, 0, 0)
              refine ax_go 1 (y := (88, [some (.ref o), some (.int sm3), some (.int lf3), some (.int k3), some (.int a3), some (.int z161)], [], w149, 0, 0)) rfl trivial ?_
              exact ih88 w149 sm3 lf3 k3 a3 z161 hw155 hf158 hs157 (by omega) (by omega) (by omega) (by omega) (by omega) (by omega) (by omega) (by omega) (by omega) (by omega)
        refine ax_go 2 (y := (8, [some (.ref o), some (.int sm), some (.int lf), some (.int k), (u4.map Value.int), (u5.map Value.int)], [.ref o, .int k], w87, 0, 0)) rfl trivial ?_
        obtain ⟨fs163, g164, -, q165⟩ := hx_obj hw93 hG0 (s := 30) rfl (by decide)
        obtain ⟨p166, e167, hG168⟩ := hx_fr (k := 2) (s := 32) q165 rfl
        refine hx_gf (l := 11) rfl rfl rfl g164 e167 ?_
        refine hx_k (l := 13) (m := 68) rfl rfl (by decide) (fun z169 h170 => ?_)
        obtain ⟨f171, g172, r173⟩ := hx_row hw93 hG168 (s := 32) (kd := 0) (n := 5721) rfl (by decide)
        refine hx_il (l := 14) rfl rfl g172 (by omega) (by omega) (fun z174 h175 => ?_)
        have b176 := ((hf94.1.1 _ _ hG168 g172).1 z169.toInt.toNat (by omega)).1.2.2.2 (by omega)
        rw [← h175] at b176
        refine hx_ic_ge (l := 17) rfl rfl (fun h177 => ?_) (fun h177 => ?_)
        · -- 133
          refine hx_k (l := 134) (m := 3) rfl rfl (by decide) (fun z178 h179 => ?_)
          refine ax_go 1 (y := (135, [some (.ref o), some (.int sm), some (.int lf), some (.int k), (u4.map Value.int), (u5.map Value.int)], [.int lf, .int z178], w87, 0, 0)) rfl trivial ?_
          refine hx_mul (l := 136) rfl rfl (fun z180 h181 => ?_)
          rw [h179] at h181
          replace h181 := h181 (by omega) (by omega)
          refine ax_go 1 (y := (137, [some (.ref o), some (.int sm), some (.int lf), some (.int z180), (u4.map Value.int), (u5.map Value.int)], [], w87, 0, 0)) rfl trivial ?_
          exact ct137 _ w87 sm lf z180 u4 u5 hw93 hf94 hs95 (by omega) (by omega) (by omega) (by omega) (by omega) (by omega) (Nat.lt_succ_self _)
        · -- 17
          refine hx_k (l := 19) (m := 20) rfl rfl (by decide) (fun z182 h183 => ?_)
          refine hx_k (l := 20) (m := 3) rfl rfl (by decide) (fun z184 h185 => ?_)
          refine ax_go 1 (y := (21, [some (.ref o), some (.int sm), some (.int lf), some (.int k), (u4.map Value.int), (u5.map Value.int)], [.int k, .int z184, .int z182], w87, 0, 0)) rfl trivial ?_
          refine hx_mul (l := 22) rfl rfl (fun z186 h187 => ?_)
          rw [h185] at h187
          replace h187 := h187 (by omega) (by omega)
          refine hx_add (l := 23) rfl rfl (fun z188 h189 => ?_)
          replace h189 := h189 (by omega) (by omega)
          refine ax_go 2 (y := (26, [some (.ref o), some (.int sm), some (.int lf), some (.int k), some (.int z188), (u5.map Value.int)], [.ref o], w87, 0, 0)) rfl trivial ?_
          refine hx_gf (l := 29) rfl rfl rfl g164 e167 ?_
          refine ax_go 1 (y := (31, [some (.ref o), some (.int sm), some (.int lf), some (.int k), some (.int z188), (u5.map Value.int)], [.int z188, .ref p166], w87, 0, 0)) rfl trivial ?_
          refine hx_k (l := 32) (m := 2) rfl rfl (by decide) (fun z190 h191 => ?_)
          refine hx_add (l := 33) rfl rfl (fun z192 h193 => ?_)
          replace h193 := h193 (by omega) (by omega)
          refine ax_go 1 (y := (34, [some (.ref o), some (.int sm), some (.int lf), some (.int k), some (.int z188), (u5.map Value.int)], [.int z192, .ref p166, .int z192, .ref p166], w87, 0, 0)) rfl trivial ?_
          refine hx_il (l := 35) rfl rfl g172 (by omega) (by omega) (fun z194 h195 => ?_)
          refine hx_k (l := 36) (m := 1) rfl rfl (by decide) (fun z196 h197 => ?_)
          refine hx_sub (l := 37) rfl rfl (fun z198 h199 => ?_)
          refine hx_is (s := 32) (l := 38) rfl rfl rfl hw93 hG168 g172 (by omega) (by omega) (hx_sg1 (fun _ _ _ => ⟨by omega, by omega⟩) (hx_sg1 (fun _ _ _ => ⟨by omega, by omega⟩) (hx_sg1 (fun _ _ _ => ⟨by omega, by omega⟩) (hx_sg1 (fun _ _ _ => ⟨by omega, by omega⟩) (hx_sg1 (fun _ _ _ => ⟨by omega, by omega⟩) (hx_sg1 (fun _ _ _ => ⟨by omega, by omega⟩) (hx_sg1 (fun _ _ _ => ⟨by omega, by omega⟩) (hx_sg1 (fun _ _ _ => ⟨by omega, by omega⟩) (hx_sg1 (fun _ _ _ => ⟨by omega, by omega⟩) hx_sg0))))))))) (fun w200 f201 g202 e203 o204 n205 hw206 n207 => ?_)
          have hs208 := ty_same_tr hs95 (n207 fz (hx_ok hfz (by decide)))
          have kp210 := hf94.1.1 _ _ hG168 g172
          have kq211 : kb z192.toInt.toNat z198.toInt := ⟨⟨fun _ => by omega, fun _ _ _ => by omega, fun _ _ _ => by omega, fun _ => by omega⟩, fun _ _ => by omega, fun _ _ _ => by omega, fun _ => by omega, fun _ => by omega, fun _ => by omega, fun _ => by omega, fun _ => by omega, fun _ _ => by omega⟩
          have hf209 : F9 G F w200 := ⟨FM_k hf94.1 hG168 g202 n205 (KP_up kp210 o204 (by rw [e203]; exact kq211) (by omega)), hF _ _ (smt_k (n207 prM (by decide)) g172 g202 n205 (fun j hj => o204 j (by omega))) hf94.2⟩
          refine ax_go 1 (y := (39, [some (.ref o), some (.int sm), some (.int lf), some (.int k), some (.int z188), (u5.map Value.int)], [.ref o], w200, 0, 0)) rfl trivial ?_
          refine hx_gf (l := 42) rfl rfl rfl ((n205 _ (hx_ne hG0 hG168 (by decide))).trans g164) e167 ?_
          refine ax_go 1 (y := (44, [some (.ref o), some (.int sm), some (.int lf), some (.int k), some (.int z188), (u5.map Value.int)], [.int z188, .ref p166], w200, 0, 0)) rfl trivial ?_
          refine hx_k (l := 45) (m := 2) rfl rfl (by decide) (fun z212 h213 => ?_)
          refine hx_add (l := 46) rfl rfl (fun z214 h215 => ?_)
          replace h215 := h215 (by omega) (by omega)
          have r216 := hx_rq hw206 g202 hG168 (s := 32) rfl
          refine hx_il (l := 47) rfl rfl g202 (by omega) (by omega) (fun z217 h218 => ?_)
          refine hx_if_ne (l := 50) rfl rfl (fun h219 => ?_) (fun h219 => ?_)
          · -- 85
            refine hx_k (l := 86) (m := 0) rfl rfl (by decide) (fun z220 h221 => ?_)
            refine ax_go 1 (y := (88, [some (.ref o), some (.int sm), some (.int lf), some (.int k), some (.int z188), some (.int z220)], [], w200, 0, 0)) rfl trivial ?_
            exact ct88 _ w200 sm lf k z188 z220 hw206 hf209 hs208 (by omega) (by omega) (by omega) (by omega) (by omega) (by omega) (by omega) (by omega) (by omega) (Nat.lt_succ_self _)
          · -- 50
            refine ax_go 2 (y := (52, [some (.ref o), some (.int sm), some (.int lf), some (.int k), some (.int z188), (u5.map Value.int)], [.ref o, .int sm], w200, 0, 0)) rfl trivial ?_
            refine hx_gf (l := 55) rfl rfl rfl ((n205 _ (hx_ne hG0 hG168 (by decide))).trans g164) e167 ?_
            refine ax_go 1 (y := (57, [some (.ref o), some (.int sm), some (.int lf), some (.int k), some (.int z188), (u5.map Value.int)], [.int z188, .ref p166, .int sm], w200, 0, 0)) rfl trivial ?_
            refine hx_k (l := 58) (m := 1) rfl rfl (by decide) (fun z222 h223 => ?_)
            refine hx_add (l := 59) rfl rfl (fun z224 h225 => ?_)
            replace h225 := h225 (by omega) (by omega)
            refine hx_il (l := 60) rfl rfl g202 (by omega) (by omega) (fun z226 h227 => ?_)
            have b228 := ((hf209.1.1 _ _ hG168 g202).1 z224.toInt.toNat (by omega)).1.2.2.1 (by omega) (by omega) (by omega)
            rw [← h227] at b228
            refine hx_add (l := 61) rfl rfl (fun z229 h230 => ?_)
            replace h230 := h230 (by omega) (by omega)
            refine ax_go 3 (y := (64, [some (.ref o), some (.int z229), some (.int lf), some (.int k), some (.int z188), (u5.map Value.int)], [.ref o, .ref o], w200, 0, 0)) rfl trivial ?_
            refine hx_gf (l := 67) rfl rfl rfl ((n205 _ (hx_ne hG0 hG168 (by decide))).trans g164) e167 ?_
            refine ax_go 1 (y := (69, [some (.ref o), some (.int z229), some (.int lf), some (.int k), some (.int z188), (u5.map Value.int)], [.int z188, .ref p166, .ref o], w200, 0, 0)) rfl trivial ?_
            refine hx_il (l := 70) rfl rfl g202 (by omega) (by omega) (fun z231 h232 => ?_)
            have b233 := ((hf209.1.1 _ _ hG168 g202).1 z188.toInt.toNat (by omega)).1.2.1 (by omega) (by omega) (by omega)
            rw [← h232] at b233
            refine ax_go 1 (y := (71, [some (.ref o), some (.int z229), some (.int lf), some (.int k), some (.int z188), (u5.map Value.int)], [.ref o, .int z231, .ref o], w200, 0, 0)) rfl trivial ?_
            refine hx_gf (l := 74) rfl rfl rfl ((n205 _ (hx_ne hG0 hG168 (by decide))).trans g164) e167 ?_
            refine ax_go 1 (y := (76, [some (.ref o), some (.int z229), some (.int lf), some (.int k), some (.int z188), (u5.map Value.int)], [.int z188, .ref p166, .int z231, .ref o], w200, 0, 0)) rfl trivial ?_
            refine hx_k (l := 77) (m := 1) rfl rfl (by decide) (fun z234 h235 => ?_)
            refine hx_add (l := 78) rfl rfl (fun z236 h237 => ?_)
            replace h237 := h237 (by omega) (by omega)
            refine hx_il (l := 79) rfl rfl g202 (by omega) (by omega) (fun z238 h239 => ?_)
            have b240 := ((hf209.1.1 _ _ hG168 g202).1 z236.toInt.toNat (by omega)).1.2.2.1 (by omega) (by omega) (by omega)
            rw [← h239] at b240
            refine hx_c0 (l := 82) (as := [.ref o, .int z231, .int z238]) rfl rfl (hx_iv (j := 193) (n := 2) (o := o) (r := []) rfl rfl ((n205 _ (hx_ne hG0 hG168 (by decide))).trans g164) rfl) (h_X9_arrives (fz := fz) hF (fun q hq => (by decide +kernel : ∀ q ∈ fb_X9_dayPasses, q ∈ fb_X9_arrives) q (hfz q hq)) (d + 0)) hw206 hf209 ⟨(hx_tr (G := G) (s := 30) (b := 0) hG0 (by decide)), (hx_ti (G := G) (lo := 0) (hi := 9) (by omega) (by omega)), (hx_ti (G := G) (lo := 0) (hi := 98) (by omega) (by omega)), trivial⟩ (fun w241 hw242 hf243 m244 => ?_)
            have hs245 := ty_same_tr hs208 m244
            refine ax_go 1 (y := (127, [some (.ref o), some (.int z229), some (.int lf), some (.int k), some (.int z188), (u5.map Value.int)], [], w241, 0, 0)) rfl trivial ?_
            exact ct127 w241 z229 lf k z188 u5 hw242 hf243 hs245 (by omega) (by omega) (by omega) (by omega) (by omega) (by omega)
    change ab_wp ro (ab_Ev ro ab_codes (d + 2)) 9 false (some .int) ab_k_X9_dayPasses (fun o_1 => ∃ v w1, o_1 = (v, w1, 0, 0) ∧ ty_w sp_ G w1 ∧ (F9 G F) w1 ∧ ty_same G fz w w1 ∧ ck_res G (some (0, 0, 2147483647)) v ∧ ck_wit 0 0 [.ref o] v) (0, [some (.ref o), none, none, none, none, none], [], w, 0, 0)
    refine hx_k (l := 1) (m := 0) rfl rfl (by decide) (fun z250 h251 => ?_)
    refine ax_go 1 (y := (2, [some (.ref o), some (.int z250), none, none, none, none], [], w, 0, 0)) rfl trivial ?_
    refine hx_k (l := 3) (m := 0) rfl rfl (by decide) (fun z252 h253 => ?_)
    refine ax_go 1 (y := (4, [some (.ref o), some (.int z250), some (.int z252), none, none, none], [], w, 0, 0)) rfl trivial ?_
    refine hx_k (l := 5) (m := 0) rfl rfl (by decide) (fun z254 h255 => ?_)
    refine ax_go 1 (y := (6, [some (.ref o), some (.int z250), some (.int z252), some (.int z254), none, none], [], w, 0, 0)) rfl trivial ?_
    exact ct6 _ w z250 z252 z254 none none hw hf (ty_same_rf w) (by omega) (by omega) (by omega) (by omega) (by omega) (Nat.lt_succ_self _)
def fb_X9_image : List (Nat × Nat) := [(8, 3), (8, 5), (19, 999), (32, 999), (35, 999), (44, 999), (45, 999), (1, 0), (18, 999), (2, 11), (2, 14), (1, 15), (54, 11), (4, 2), (7, 9), (30, 13), (30, 34), (30, 2), (30, 22), (30, 23), (30, 24), (30, 25), (46, 999), (47, 999), (30, 35), (30, 36), (7, 0), (24, 999), (37, 999), (30, 4), (30, 5), (30, 6), (30, 8), (30, 9), (30, 10), (30, 11), (30, 14), (30, 15), (30, 16), (30, 17), (30, 18), (30, 19), (30, 20), (30, 21), (39, 999), (40, 999), (41, 999), (30, 30), (30, 42), (30, 43), (30, 44), (1, 1), (1, 3), (1, 10), (1, 13), (8, 0), (30, 49), (2, 15), (8, 1)]
set_option maxHeartbeats 8000000 in
theorem h_X9_image {ro : ab_R} {G : Nat → Nat} {fz : List (Nat × Nat)} {F : ab_W → Prop} (hF : ∀ w w', smt G w w' → F w → F w') (hU3 : ∀ p p', G p = 33 → G p' = 33 → p = p') (hfz : ∀ q ∈ fz, q ∈ fb_X9_image) (d : Nat) : ck_ct ro sp_ G (F9 G F) fz (ab_Ev ro ab_codes (d + 2)) 131 [(2, 30, 0), (0, (-2147483648), 2147483647)] (some (0, (-2147483648), 2147483647)) 0 0 := by
  have hFF := F9_same hF
  refine ck_hand (d := d + 1) (by decide) (fun as w hw hf has => ?_)
  match as, has with
  | [v0, v1], ⟨h0, h1, _⟩ =>
    obtain ⟨o, rfl, _, hG0⟩ := ty_refn h0 rfl rfl
    replace hG0 : G o = 30 := hG0
    obtain ⟨k, rfl, hl1, hh1⟩ := ty_int h1 rfl
    replace hl1 : ((-2147483648) : Int) ≤ k.toInt := hl1
    replace hh1 : k.toInt ≤ 2147483647 := hh1
    refine ⟨rfl, ?_⟩
    obtain ⟨fs1, g2, -, q3⟩ := hx_obj hw hG0 (s := 30) rfl (by decide)
    obtain ⟨pk, e_pk, hG_pk⟩ := hx_fr (k := 2) (s := 32) q3 rfl
    obtain ⟨pi, e_pi, hG_pi⟩ := hx_fr (k := 3) (s := 33) q3 rfl
    obtain ⟨f0, g_f0, r_f0⟩ := hx_row hw hG_pk (s := 32) (kd := 0) (n := 5721) rfl (by decide)
    have ct17 : ∀ (nq : Nat) (w4 : ab_W) (i : Int32) (fi : Nat → Int32), ty_w sp_ G w4 → (F9x G F k.toInt.toNat) w4 → ty_same G fz w w4 → (hx_has w4 o 9 2 (.ref pk)) → (hx_has w4 o 9 3 (.ref pi)) → (w4[pk]? = some (.inl (0, 5721, .inl f0))) → (w4[pi]? = some (.inl (0, 11442, .inl fi))) → (0 ≤ i.toInt) → (i.toInt ≤ 5721) → (0 ≤ k.toInt) → (k.toInt ≤ 1) → (∀ j : Nat, (j : Int) < i.toInt → fi (5721 * k.toInt.toNat + j) = f0 j) → (5722 - i.toInt).toNat < nq → ab_wp ro (ab_Ev ro ab_codes (d + 1)) 9 false (some .int) ab_k_X9_image (fun o_1 => ∃ v w1, o_1 = (v, w1, 0, 0) ∧ ty_w sp_ G w1 ∧ (F9 G F) w1 ∧ ty_same G fz w w1 ∧ ck_res G (some (0, (-2147483648), 2147483647)) v ∧ ck_wit 0 0 [.ref o, .int k] v) (17, [some (.ref o), some (.int k), some (.int i)], [], w4, 0, 0) := by
      intro nq
      induction nq with
      | zero => intro w4 i fi hw13 hf14 hs15 hh5 hh6 g7 g8 i9 i10 i11 i12 hcp hm; exact absurd hm (Nat.not_lt_zero _)
      | succ nq ih17 =>
        intro w4 i fi hw13 hf14 hs15 hh5 hh6 g7 g8 i9 i10 i11 i12 hcp hm17
        obtain ⟨fs16, g17, e18⟩ := hh5
        obtain ⟨fs19, g20, e21⟩ := hh6
        obtain rfl : fs16 = fs19 := hx_inj g17 g20
        refine ax_go 1 (y := (18, [some (.ref o), some (.int k), some (.int i)], [.int i], w4, 0, 0)) rfl trivial ?_
        refine hx_k (l := 21) (m := 5721) rfl rfl (by decide) (fun z22 h23 => ?_)
        refine hx_ic_ge (l := 24) rfl rfl (fun h24 => ?_) (fun h24 => ?_)
        · -- 48
          refine ax_go 1 (y := (49, [some (.ref o), some (.int k), some (.int i)], [.ref o], w4, 0, 0)) rfl trivial ?_
          have q25 := hx_oq hw13 g17 hG0 (s := 30) rfl
          obtain ⟨p26, e27, hG28⟩ := hx_fr (k := 4) (s := 34) q25 rfl
          refine hx_gf (l := 52) rfl rfl rfl g17 e27 ?_
          refine ax_go 1 (y := (53, [some (.ref o), some (.int k), some (.int i)], [.int k, .ref p26], w4, 0, 0)) rfl trivial ?_
          refine hx_k (l := 54) (m := 1) rfl rfl (by decide) (fun z29 h30 => ?_)
          obtain ⟨f31, g32, r33⟩ := hx_row hw13 hG28 (s := 34) (kd := 3) (n := 2) rfl (by decide)
          refine hx_bs (s := 34) (l := 55) rfl rfl (by decide) rfl hw13 hG28 g32 (by omega) (by omega) (fun w34 f35 g36 e37 o38 n39 hw40 n41 => ?_)
          have hs42 := ty_same_tr hs15 (n41 fz (hx_ok hfz (by decide)))
          have hKP : KP (fun i => fi (5721 * k.toInt.toNat + i)) := KP_ext (hf14.1.1 _ _ hG_pk g7) (fun j hj => hcp j (by omega))
          have hf43 : F9 G F w34 := F9x_done hf14 (by omega) hU3 hG28 hG_pi g8 g32 g36 n39 (fun j hj => o38 j (by omega)) hKP (hF _ _ (smt_of (n41 prN (by decide))) hf14.2)
          refine ax_go 1 (y := (56, [some (.ref o), some (.int k), some (.int i)], [.ref o], w34, 0, 0)) rfl trivial ?_
          refine hx_k (l := 57) (m := 0) rfl rfl (by decide) (fun z44 h45 => ?_)
          refine hx_ci (l := 60) (as := [.ref o, .int z44]) rfl rfl (hx_iv (j := 125) (n := 1) (o := o) (r := []) rfl rfl ((n39 _ (hx_ne hG0 hG28 (by decide))).trans g17) rfl) (cc_X9_good_0 (fz := fz) hFF  (fun q hq => (by decide +kernel : ∀ q ∈ fb_X9_image, q ∈ fr_X9_good_0) q (hfz q hq)) (d + 0)) hw40 hf43 ⟨(hx_tr (G := G) (s := 30) (b := 0) hG0 (by decide)), (ck_top_ok (G := G) z44), trivial⟩ (fun w46 z51 hw47 hf48 m49 a52 b53 u54 => ?_)
          have hs50 := ty_same_tr hs42 m49
          exact ax_ret rfl rfl trivial ⟨some (.int z51), _, rfl, hw47, hf48, hs50, (ck_top_ok (G := G) z51), trivial⟩
        · -- 24
          refine ax_go 1 (y := (25, [some (.ref o), some (.int k), some (.int i)], [.ref o], w4, 0, 0)) rfl trivial ?_
          refine hx_gf (l := 28) rfl rfl rfl g17 e21 ?_
          refine hx_k (l := 31) (m := 5721) rfl rfl (by decide) (fun z55 h56 => ?_)
          refine ax_go 1 (y := (32, [some (.ref o), some (.int k), some (.int i)], [.int k, .int z55, .ref pi], w4, 0, 0)) rfl trivial ?_
          refine hx_mul (l := 33) rfl rfl (fun z57 h58 => ?_)
          rw [h56] at h58
          replace h58 := h58 (by omega) (by omega)
          refine ax_go 1 (y := (34, [some (.ref o), some (.int k), some (.int i)], [.int i, .int z57, .ref pi], w4, 0, 0)) rfl trivial ?_
          refine hx_add (l := 35) rfl rfl (fun z59 h60 => ?_)
          replace h60 := h60 (by omega) (by omega)
          refine ax_go 1 (y := (36, [some (.ref o), some (.int k), some (.int i)], [.ref o, .int z59, .ref pi], w4, 0, 0)) rfl trivial ?_
          refine hx_gf (l := 39) rfl rfl rfl g17 e18 ?_
          refine ax_go 1 (y := (40, [some (.ref o), some (.int k), some (.int i)], [.int i, .ref pk, .int z59, .ref pi], w4, 0, 0)) rfl trivial ?_
          have r61 := hx_rq hw13 g7 hG_pk (s := 32) rfl
          refine hx_il (l := 41) rfl rfl g7 (by omega) (by omega) (fun z62 h63 => ?_)
          refine hx_is (s := 33) (l := 42) rfl rfl rfl hw13 hG_pi g8 (by omega) (by omega) hx_sg0 (fun w64 f65 g66 e67 o68 n69 hw70 n71 => ?_)
          have hs72 := ty_same_tr hs15 (n71 fz (hx_ok hfz (by decide)))
          have hf73 : F9x G F k.toInt.toNat w64 := F9x_put hf14 hG_pi g8 g66 n69 o68 (by omega) (hF _ _ (smt_of (n71 prN (by decide))) hf14.2)
          refine hx_iinc (x := i) (n := 1) (l := 45) rfl rfl rfl (Nat.le_of_ble_eq_true rfl) (by omega) (by omega) (by decide) (fun z74 h75 => ?_)
          change ab_wp ro (ab_Ev ro ab_codes (d + 1)) 9 false (some .int) ab_k_X9_image (fun o_1 => ∃ v w1, o_1 = (v, w1, 0, 0) ∧ ty_w sp_ G w1 ∧ (F9 G F) w1 ∧ ty_same G fz w w1 ∧ ck_res G (some (0, (-2147483648), 2147483647)) v ∧ ck_wit 0 0 [.ref o, .int k] v) (45, [some (.ref o), some (.int k), some (.int z74)], [], w64, 0, 0)
          refine ax_go 1 (y := (17, [some (.ref o), some (.int k), some (.int z74)], [], w64, 0, 0)) rfl trivial ?_
          exact ih17 w64 z74 f65 hw70 hf73 hs72 ⟨_, ((n69 _ (hx_ne hG0 hG_pi (by decide))).trans g17), e18⟩ ⟨_, ((n69 _ (hx_ne hG0 hG_pi (by decide))).trans g17), e21⟩ ((n69 _ (hx_ne hG_pk hG_pi (by decide))).trans g7) g66 (by omega) (by omega) (by omega) (by omega) (fun j hj => by
            by_cases zz : (j : Int) = i.toInt
            · rw [show 5721 * k.toInt.toNat + j = z59.toInt.toNat by omega, e67, h63, show i.toInt.toNat = j by omega]
            · rw [o68 _ (by omega)]; exact hcp j (by omega)) (by omega)
    change ab_wp ro (ab_Ev ro ab_codes (d + 1)) 9 false (some .int) ab_k_X9_image (fun o_1 => ∃ v w1, o_1 = (v, w1, 0, 0) ∧ ty_w sp_ G w1 ∧ (F9 G F) w1 ∧ ty_same G fz w w1 ∧ ck_res G (some (0, (-2147483648), 2147483647)) v ∧ ck_wit 0 0 [.ref o, .int k] v) (0, [some (.ref o), some (.int k), none], [], w, 0, 0)
    refine ax_go 1 (y := (1, [some (.ref o), some (.int k), none], [.int k], w, 0, 0)) rfl trivial ?_
    refine hx_k (l := 2) (m := 0) rfl rfl (by decide) (fun z76 h77 => ?_)
    refine hx_k (l := 3) (m := 1) rfl rfl (by decide) (fun z78 h79 => ?_)
    refine hx_pi (l := 6) (as := [.int k, .int z76, .int z78]) rfl rfl rfl (hp_X9_lies (fz := fz) hFF (fun q hq => (by decide +kernel : ∀ q ∈ fb_X9_image, q ∈ fb_hp_X9_lies) q (hfz q hq)) (d + 0)) hw hf ⟨(ck_top_ok (G := G) k), (ck_top_ok (G := G) z76), (ck_top_ok (G := G) z78), trivial⟩ trivial (fun w80 z85 hw81 hf82 m83 a86 b87 u88 => ?_)
    rw [u88.1]
    have u89 := u88.2 _ _ _ _ rfl rfl
    clear u88
    refine hx_if_ne (l := 9) rfl rfl (fun h90 => ?_) (fun h90 => ?_)
    · -- 15
      replace u89 := u89.1 (by omega)
      refine hx_k (l := 16) (m := 0) rfl rfl (by decide) (fun z91 h92 => ?_)
      refine ax_go 1 (y := (17, [some (.ref o), some (.int k), some (.int z91)], [], w, 0, 0)) rfl trivial ?_
      obtain ⟨f93, g94, r95⟩ := hx_row hw hG_pi (s := 33) (kd := 0) (n := 11442) rfl (by decide)
      exact ct17 _ w z91 f93 hw (F9x_of hf) (ty_same_rf w) ⟨_, g2, e_pk⟩ ⟨_, g2, e_pi⟩ g_f0 g94 (by omega) (by omega) (by omega) (by omega) (fun j hj => absurd hj (by omega)) (Nat.lt_succ_self _)
    · -- 9
      clear u89
      refine ax_go 1 (y := (10, [some (.ref o), some (.int k), none], [.ref o], w, 0, 0)) rfl trivial ?_
      refine hx_k (l := 11) (m := (-1)) rfl rfl (by decide) (fun z96 h97 => ?_)
      refine hx_ci (l := 14) (as := [.ref o, .int z96]) rfl rfl (hx_iv (j := 124) (n := 1) (o := o) (r := []) rfl rfl g2 rfl) (cc_X9_refuses_0 (fz := fz) hFF  (fun q hq => (by decide +kernel : ∀ q ∈ fb_X9_image, q ∈ fr_X9_refuses_0) q (hfz q hq)) (d + 0)) hw hf ⟨(hx_tr (G := G) (s := 30) (b := 0) hG0 (by decide)), (hx_ti (G := G) (lo := (-6)) (hi := (-1)) (by omega) (by omega)), trivial⟩ (fun w98 z103 hw99 hf100 m101 a104 b105 u106 => ?_)
      have hs102 := ty_same_tr (ty_same_rf w) m101
      exact ax_ret rfl rfl trivial ⟨some (.int z103), _, rfl, hw99, hf100, hs102, (ck_top_ok (G := G) z103), trivial⟩
