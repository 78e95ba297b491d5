/-! walks by program: the reference -/
def fb_hp_X9_addsParish : List (Nat × Nat) := [(8, 3), (8, 5), (19, 999), (33, 999), (34, 999), (35, 999), (44, 999), (45, 999), (1, 0), (18, 999), (2, 11), (2, 14), (1, 15), (54, 11), (4, 2), (7, 9), (30, 13), (30, 34), (30, 2), (30, 22), (30, 23), (30, 24), (30, 25), (46, 999), (47, 999), (30, 35), (30, 36), (7, 0), (24, 999), (37, 999), (30, 4), (30, 5), (30, 6), (30, 8), (30, 9), (30, 10), (30, 11), (30, 14), (30, 15), (30, 16), (30, 17), (30, 18), (30, 19), (30, 20), (30, 21), (39, 999), (40, 999), (41, 999), (30, 30), (30, 42), (30, 43), (30, 44), (1, 1), (1, 3), (1, 10), (1, 13), (8, 0), (30, 49), (2, 15), (8, 1)]
set_option maxHeartbeats 8000000 in
theorem hp_X9_addsParish {ro : ab_R} {G : Nat → Nat} {fz : List (Nat × Nat)} {F : ab_W → Prop} (hF : ∀ w w', smt G w w' → F w → F w') (hfz : ∀ q ∈ fz, q ∈ fb_hp_X9_addsParish) (d : Nat) : hx_ct ro sp_ G (F9 G F) fz (ab_Ev ro ab_codes (d + 1)) 135 [(2, 30, 0), (0, (-2147483648), 2147483647), (0, (-2147483648), 2147483647)] none (fun as w => ∀ (o : Nat) (be : Int32) (co : Int32) (pk : Nat) (f : Nat → Int32), as = [.ref o, .int be, .int co] → hx_has w o 9 2 (.ref pk) → w[pk]? = some (.inl (0, 5721, .inl f)) → (f 110).toInt ≤ 9 ∧ -1 ≤ be.toInt ∧ be.toInt < (f 110).toInt ∧ 0 ≤ co.toInt ∧ co.toInt ≤ 999) (fun _ _ _ _ => True) := by
  have hFF := F9_same hF
  refine hx_hand (d := d + 0) (by decide) (fun as w hw hf has hP => ?_)
  match as, has with
  | [v0, v1, v2], ⟨h0, h1, h2, _⟩ =>
    obtain ⟨o, rfl, _, hG0⟩ := ty_refn h0 rfl rfl
    replace hG0 : G o = 30 := hG0
    obtain ⟨be, rfl, hl1, hh1⟩ := ty_int h1 rfl
    replace hl1 : ((-2147483648) : Int) ≤ be.toInt := hl1
    replace hh1 : be.toInt ≤ 2147483647 := hh1
    obtain ⟨co, rfl, hl2, hh2⟩ := ty_int h2 rfl
    replace hl2 : ((-2147483648) : Int) ≤ co.toInt := hl2
    replace hh2 : co.toInt ≤ 2147483647 := hh2
    refine ⟨rfl, ?_⟩
    obtain ⟨fs1, g2, -, q3⟩ := hx_obj hw hG0 (s := 30) rfl (by decide)
    obtain ⟨pk, e_pk, hG_pk⟩ := hx_fr (k := 2) (s := 32) q3 rfl
    obtain ⟨f0, g_f0, r_f0⟩ := hx_row hw hG_pk (s := 32) (kd := 0) (n := 5721) rfl (by decide)
    have hp0 := hP o be co pk f0 rfl ⟨_, g2, e_pk⟩ g_f0
    change ab_wp ro (ab_Ev ro ab_codes d) 9 false none ab_k_X9_addsParish (fun o_1 => ∃ v w1, o_1 = (v, w1, 0, 0) ∧ ty_w sp_ G w1 ∧ (F9 G F) w1 ∧ ty_same G fz w w1 ∧ ck_res G none v ∧ (fun _ _ _ _ => True) ([.ref o, .int be, .int co] : List Value) w v w1) (0, [some (.ref o), some (.int be), some (.int co), none], [], w, 0, 0)
    refine ax_go 1 (y := (1, [some (.ref o), some (.int be), some (.int co), none], [.ref o], w, 0, 0)) rfl trivial ?_
    refine hx_gf (l := 4) rfl rfl rfl g2 e_pk ?_
    refine hx_k (l := 6) (m := 110) rfl rfl (by decide) (fun z4 h5 => ?_)
    refine hx_il (l := 7) rfl rfl g_f0 (by omega) (by omega) (fun z6 h7 => ?_)
    have b8 := ((hf.1.1 _ _ hG_pk g_f0).1 z4.toInt.toNat (by omega)).2.2.2.2.1 (by omega)
    rw [← h7] at b8
    rw [show z4.toInt.toNat = 110 by omega] at h7
    replace h7 := congrArg Int32.toInt h7
    refine ax_go 2 (y := (9, [some (.ref o), some (.int be), some (.int co), some (.int z6)], [.ref o], w, 0, 0)) rfl trivial ?_
    refine hx_gf (l := 12) rfl rfl rfl g2 e_pk ?_
    refine hx_k (l := 14) (m := 71) rfl rfl (by decide) (fun z9 h10 => ?_)
    refine ax_go 1 (y := (15, [some (.ref o), some (.int be), some (.int co), some (.int z6)], [.int z6, .int z9, .ref pk], w, 0, 0)) rfl trivial ?_
    refine hx_add (l := 16) rfl rfl (fun z11 h12 => ?_)
    replace h12 := h12 (by omega) (by omega)
    refine ax_go 1 (y := (17, [some (.ref o), some (.int be), some (.int co), some (.int z6)], [.int be, .int z11, .ref pk], w, 0, 0)) rfl trivial ?_
    refine hx_is (s := 32) (l := 18) rfl rfl rfl hw hG_pk g_f0 (by omega) (by omega) (hx_sg1 (fun _ _ _ => ⟨by omega, by omega⟩) (hx_sg1 (fun _ _ _ => ⟨by omega, by omega⟩) (hx_sg1 (fun _ _ _ => ⟨by omega, by omega⟩) (hx_sg1 (fun _ _ _ => ⟨by omega, by omega⟩) (hx_sg1 (fun _ _ _ => ⟨by omega, by omega⟩) (hx_sg1 (fun _ _ _ => ⟨by omega, by omega⟩) (hx_sg1 (fun _ _ _ => ⟨by omega, by omega⟩) (hx_sg1 (fun _ _ _ => ⟨by omega, by omega⟩) (hx_sg1 (fun _ _ _ => ⟨by omega, by omega⟩) hx_sg0))))))))) (fun w13 f14 g15 e16 o17 n18 hw19 n20 => ?_)
    have hs21 := ty_same_tr (ty_same_rf w) (n20 fz (hx_ok hfz (by decide)))
    have kp23 := hf.1.1 _ _ hG_pk g_f0
    have kq17 : kb z11.toInt.toNat be.toInt := ⟨⟨fun _ => by omega, fun _ _ _ => by omega, fun _ _ _ => by omega, fun _ => by omega⟩, fun _ _ => by omega, fun _ _ _ => by omega, fun _ => by omega, fun _ => by omega, fun _ => by omega, fun _ => by omega, fun _ => by omega, fun _ _ => by omega⟩
    have hf22 : F9 G F w13 := ⟨FM_k hf.1 hG_pk g15 n18 (KP_up2 kp23 o17 (fun _ => by rw [e16]; exact kq17) (by omega) (fun e => by rw [e16]; omega) (fun e => by omega)), hF _ _ (smt_k (n20 prM (by decide)) g_f0 g15 n18 (fun j hj => o17 j (by omega))) hf.2⟩
    refine ax_go 1 (y := (19, [some (.ref o), some (.int be), some (.int co), some (.int z6)], [.ref o], w13, 0, 0)) rfl trivial ?_
    refine hx_gf (l := 22) rfl rfl rfl ((n18 _ (hx_ne hG0 hG_pk (by decide))).trans g2) e_pk ?_
    refine hx_k (l := 23) (m := 0) rfl rfl (by decide) (fun z25 h26 => ?_)
    refine ax_go 1 (y := (24, [some (.ref o), some (.int be), some (.int co), some (.int z6)], [.int z6, .int z25, .ref pk], w13, 0, 0)) rfl trivial ?_
    refine hx_add (l := 25) rfl rfl (fun z27 h28 => ?_)
    replace h28 := h28 (by omega) (by omega)
    refine ax_go 1 (y := (26, [some (.ref o), some (.int be), some (.int co), some (.int z6)], [.int co, .int z27, .ref pk], w13, 0, 0)) rfl trivial ?_
    refine hx_is (s := 32) (l := 27) rfl rfl rfl hw19 hG_pk g15 (by omega) (by omega) (hx_sg1 (fun _ _ _ => ⟨by omega, by omega⟩) (hx_sg1 (fun _ _ _ => ⟨by omega, by omega⟩) (hx_sg1 (fun _ _ _ => ⟨by omega, by omega⟩) (hx_sg1 (fun _ _ _ => ⟨by omega, by omega⟩) (hx_sg1 (fun _ _ _ => ⟨by omega, by omega⟩) (hx_sg1 (fun _ _ _ => ⟨by omega, by omega⟩) (hx_sg1 (fun _ _ _ => ⟨by omega, by omega⟩) (hx_sg1 (fun _ _ _ => ⟨by omega, by omega⟩) (hx_sg1 (fun _ _ _ => ⟨by omega, by omega⟩) hx_sg0))))))))) (fun w29 f30 g31 e32 o33 n34 hw35 n36 => ?_)
    have hs37 := ty_same_tr hs21 (n36 fz (hx_ok hfz (by decide)))
    have kp39 := hf22.1.1 _ _ hG_pk g15
    have kq40 : kb z27.toInt.toNat co.toInt := ⟨⟨fun _ => by omega, fun _ _ _ => by omega, fun _ _ _ => by omega, fun _ => by omega⟩, fun _ _ => by omega, fun _ _ _ => by omega, fun _ => by omega, fun _ => by omega, fun _ => by omega, fun _ => by omega, fun _ => by omega, fun _ _ => by omega⟩
    have hf38 : F9 G F w29 := ⟨FM_k hf22.1 hG_pk g31 n34 (KP_up kp39 o33 (by rw [e32]; exact kq40) (by omega)), hF _ _ (smt_k (n36 prM (by decide)) g15 g31 n34 (fun j hj => o33 j (by omega))) hf22.2⟩
    refine ax_go 1 (y := (28, [some (.ref o), some (.int be), some (.int co), some (.int z6)], [.ref o], w29, 0, 0)) rfl trivial ?_
    refine hx_gf (l := 31) rfl rfl rfl ((n34 _ (hx_ne hG0 hG_pk (by decide))).trans ((n18 _ (hx_ne hG0 hG_pk (by decide))).trans g2)) e_pk ?_
    refine hx_k (l := 33) (m := 10) rfl rfl (by decide) (fun z41 h42 => ?_)
    refine ax_go 1 (y := (34, [some (.ref o), some (.int be), some (.int co), some (.int z6)], [.int z6, .int z41, .ref pk], w29, 0, 0)) rfl trivial ?_
    refine hx_add (l := 35) rfl rfl (fun z43 h44 => ?_)
    replace h44 := h44 (by omega) (by omega)
    refine hx_k (l := 36) (m := 0) rfl rfl (by decide) (fun z45 h46 => ?_)
    refine hx_is (s := 32) (l := 37) rfl rfl rfl hw35 hG_pk g31 (by omega) (by omega) (hx_sg1 (fun _ _ _ => ⟨by omega, by omega⟩) (hx_sg1 (fun _ _ _ => ⟨by omega, by omega⟩) (hx_sg1 (fun _ _ _ => ⟨by omega, by omega⟩) (hx_sg1 (fun _ _ _ => ⟨by omega, by omega⟩) (hx_sg1 (fun _ _ _ => ⟨by omega, by omega⟩) (hx_sg1 (fun _ _ _ => ⟨by omega, by omega⟩) (hx_sg1 (fun _ _ _ => ⟨by omega, by omega⟩) (hx_sg1 (fun _ _ _ => ⟨by omega, by omega⟩) (hx_sg1 (fun _ _ _ => ⟨by omega, by omega⟩) hx_sg0))))))))) (fun w47 f48 g49 e50 o51 n52 hw53 n54 => ?_)
    have hs55 := ty_same_tr hs37 (n54 fz (hx_ok hfz (by decide)))
    have kp57 := hf38.1.1 _ _ hG_pk g31
    have kq58 : kb z43.toInt.toNat z45.toInt := ⟨⟨fun _ => by omega, fun _ _ _ => by omega, fun _ _ _ => by omega, fun _ => by omega⟩, fun _ _ => by omega, fun _ _ _ => by omega, fun _ => by omega, fun _ => by omega, fun _ => by omega, fun _ => by omega, fun _ => by omega, fun _ _ => by omega⟩
    have hf56 : F9 G F w47 := ⟨FM_k hf38.1 hG_pk g49 n52 (KP_up kp57 o51 (by rw [e50]; exact kq58) (by omega)), hF _ _ (smt_k (n54 prM (by decide)) g31 g49 n52 (fun j hj => o51 j (by omega))) hf38.2⟩
    refine ax_go 1 (y := (38, [some (.ref o), some (.int be), some (.int co), some (.int z6)], [.ref o], w47, 0, 0)) rfl trivial ?_
    refine hx_gf (l := 41) rfl rfl rfl ((n52 _ (hx_ne hG0 hG_pk (by decide))).trans ((n34 _ (hx_ne hG0 hG_pk (by decide))).trans ((n18 _ (hx_ne hG0 hG_pk (by decide))).trans g2))) e_pk ?_
    refine hx_k (l := 43) (m := 81) rfl rfl (by decide) (fun z59 h60 => ?_)
    refine ax_go 1 (y := (44, [some (.ref o), some (.int be), some (.int co), some (.int z6)], [.int z6, .int z59, .ref pk], w47, 0, 0)) rfl trivial ?_
    refine hx_add (l := 45) rfl rfl (fun z61 h62 => ?_)
    replace h62 := h62 (by omega) (by omega)
    refine ax_go 1 (y := (46, [some (.ref o), some (.int be), some (.int co), some (.int z6)], [.int be, .int z61, .ref pk], w47, 0, 0)) rfl trivial ?_
    refine hx_k (l := 47) (m := (-1)) rfl rfl (by decide) (fun z63 h64 => ?_)
    refine hx_ic_ne (l := 50) rfl rfl (fun h65 => ?_) (fun h65 => ?_)
    · -- 54
      refine ax_go 1 (y := (55, [some (.ref o), some (.int be), some (.int co), some (.int z6)], [.ref o, .int z61, .ref pk], w47, 0, 0)) rfl trivial ?_
      refine hx_gf (l := 58) rfl rfl rfl ((n52 _ (hx_ne hG0 hG_pk (by decide))).trans ((n34 _ (hx_ne hG0 hG_pk (by decide))).trans ((n18 _ (hx_ne hG0 hG_pk (by decide))).trans g2))) e_pk ?_
      refine hx_k (l := 60) (m := 81) rfl rfl (by decide) (fun z66 h67 => ?_)
      refine ax_go 1 (y := (61, [some (.ref o), some (.int be), some (.int co), some (.int z6)], [.int be, .int z66, .ref pk, .int z61, .ref pk], w47, 0, 0)) rfl trivial ?_
      refine hx_add (l := 62) rfl rfl (fun z68 h69 => ?_)
      replace h69 := h69 (by omega) (by omega)
      have r70 := hx_rq hw53 g49 hG_pk (s := 32) rfl
      refine hx_il (l := 63) rfl rfl g49 (by omega) (by omega) (fun z71 h72 => ?_)
      refine hx_k (l := 64) (m := 1) rfl rfl (by decide) (fun z73 h74 => ?_)
      refine hx_add (l := 65) rfl rfl (fun z75 h76 => ?_)
      refine hx_is (s := 32) (l := 66) rfl rfl rfl hw53 hG_pk g49 (by omega) (by omega) (hx_sg1 (fun _ _ _ => ⟨by omega, by omega⟩) (hx_sg1 (fun _ _ _ => ⟨by omega, by omega⟩) (hx_sg1 (fun _ _ _ => ⟨by omega, by omega⟩) (hx_sg1 (fun _ _ _ => ⟨by omega, by omega⟩) (hx_sg1 (fun _ _ _ => ⟨by omega, by omega⟩) (hx_sg1 (fun _ _ _ => ⟨by omega, by omega⟩) (hx_sg1 (fun _ _ _ => ⟨by omega, by omega⟩) (hx_sg1 (fun _ _ _ => ⟨by omega, by omega⟩) (hx_sg1 (fun _ _ _ => ⟨by omega, by omega⟩) hx_sg0))))))))) (fun w77 f78 g79 e80 o81 n82 hw83 n84 => ?_)
      have hs85 := ty_same_tr hs55 (n84 fz (hx_ok hfz (by decide)))
      have kp87 := hf56.1.1 _ _ hG_pk g49
      have kq88 : kb z61.toInt.toNat z75.toInt := ⟨⟨fun _ => by omega, fun _ _ _ => by omega, fun _ _ _ => by omega, fun _ => by omega⟩, fun _ _ => by omega, fun _ _ _ => by omega, fun _ => by omega, fun _ => by omega, fun _ => by omega, fun _ => by omega, fun _ => by omega, fun _ _ => by omega⟩
      have hf86 : F9 G F w77 := ⟨FM_k hf56.1 hG_pk g79 n82 (KP_up kp87 o81 (by rw [e80]; exact kq88) (by omega)), hF _ _ (smt_k (n84 prM (by decide)) g49 g79 n82 (fun j hj => o81 j (by omega))) hf56.2⟩
      refine ax_go 1 (y := (67, [some (.ref o), some (.int be), some (.int co), some (.int z6)], [.ref o], w77, 0, 0)) rfl trivial ?_
      refine hx_gf (l := 70) rfl rfl rfl ((n82 _ (hx_ne hG0 hG_pk (by decide))).trans ((n52 _ (hx_ne hG0 hG_pk (by decide))).trans ((n34 _ (hx_ne hG0 hG_pk (by decide))).trans ((n18 _ (hx_ne hG0 hG_pk (by decide))).trans g2)))) e_pk ?_
      refine hx_k (l := 72) (m := 110) rfl rfl (by decide) (fun z89 h90 => ?_)
      refine ax_go 1 (y := (73, [some (.ref o), some (.int be), some (.int co), some (.int z6)], [.int z89, .ref pk, .int z89, .ref pk], w77, 0, 0)) rfl trivial ?_
      have r91 := hx_rq hw83 g79 hG_pk (s := 32) rfl
      refine hx_il (l := 74) rfl rfl g79 (by omega) (by omega) (fun z92 h93 => ?_)
      rw [show z89.toInt.toNat = 110 by omega, o81 110 (by omega), o51 110 (by omega), o33 110 (by omega), o17 110 (by omega)] at h93
      replace h93 := congrArg Int32.toInt h93
      refine hx_k (l := 75) (m := 1) rfl rfl (by decide) (fun z94 h95 => ?_)
      refine hx_add (l := 76) rfl rfl (fun z96 h97 => ?_)
      replace h97 := h97 (by omega) (by omega)
      refine hx_is (s := 32) (l := 77) rfl rfl rfl hw83 hG_pk g79 (by omega) (by omega) (hx_sg1 (fun _ _ _ => ⟨by omega, by omega⟩) (hx_sg1 (fun _ _ _ => ⟨by omega, by omega⟩) (hx_sg1 (fun _ _ _ => ⟨by omega, by omega⟩) (hx_sg1 (fun _ _ _ => ⟨by omega, by omega⟩) (hx_sg1 (fun _ _ _ => ⟨by omega, by omega⟩) (hx_sg1 (fun _ _ _ => ⟨by omega, by omega⟩) (hx_sg1 (fun _ _ _ => ⟨by omega, by omega⟩) (hx_sg1 (fun _ _ _ => ⟨by omega, by omega⟩) (hx_sg1 (fun _ _ _ => ⟨by omega, by omega⟩) hx_sg0))))))))) (fun w98 f99 g100 e101 o102 n103 hw104 n105 => ?_)
      have hs106 := ty_same_tr hs85 (n105 fz (hx_ok hfz (by decide)))
      have kp108 := hf86.1.1 _ _ hG_pk g79
      have h71 : (f78 71).toInt = -1 := by
        rw [o81 71 (by omega), o51 71 (by omega), o33 71 (by omega)]
        by_cases zz : (f0 110).toInt = 0
        · rw [show 71 = z11.toInt.toNat by omega, e16]
          omega
        · rw [o17 71 (by omega)]
          exact (hf.1.1 _ _ hG_pk g_f0).2.1 (by omega)
      have kq76 : kb z89.toInt.toNat z96.toInt := ⟨⟨fun _ => by omega, fun _ _ _ => by omega, fun _ _ _ => by omega, fun _ => by omega⟩, fun _ _ => by omega, fun _ _ _ => by omega, fun _ => by omega, fun _ => by omega, fun _ => by omega, fun _ => by omega, fun _ => by omega, fun _ _ => by omega⟩
      have hf107 : F9 G F w98 := ⟨FM_k hf86.1 hG_pk g100 n103 (KP_up2 kp108 o102 (fun _ => by rw [e101]; exact kq76) (by omega) (fun e => by omega) (fun _ => Or.inr h71)), hF _ _ (smt_k (n105 prM (by decide)) g79 g100 n103 (fun j hj => o102 j (by omega))) hf86.2⟩
      exact ax_ret rfl rfl trivial ⟨none, _, rfl, hw104, hf107, hs106, trivial, trivial⟩
    · -- 50
      refine hx_k (l := 51) (m := 0) rfl rfl (by decide) (fun z110 h111 => ?_)
      refine ax_go 1 (y := (65, [some (.ref o), some (.int be), some (.int co), some (.int z6)], [.int z110, .int z61, .ref pk], w47, 0, 0)) rfl trivial ?_
      refine hx_is (s := 32) (l := 66) rfl rfl rfl hw53 hG_pk g49 (by omega) (by omega) (hx_sg1 (fun _ _ _ => ⟨by omega, by omega⟩) (hx_sg1 (fun _ _ _ => ⟨by omega, by omega⟩) (hx_sg1 (fun _ _ _ => ⟨by omega, by omega⟩) (hx_sg1 (fun _ _ _ => ⟨by omega, by omega⟩) (hx_sg1 (fun _ _ _ => ⟨by omega, by omega⟩) (hx_sg1 (fun _ _ _ => ⟨by omega, by omega⟩) (hx_sg1 (fun _ _ _ => ⟨by omega, by omega⟩) (hx_sg1 (fun _ _ _ => ⟨by omega, by omega⟩) (hx_sg1 (fun _ _ _ => ⟨by omega, by omega⟩) hx_sg0))))))))) (fun w112 f113 g114 e115 o116 n117 hw118 n119 => ?_)
      have hs120 := ty_same_tr hs55 (n119 fz (hx_ok hfz (by decide)))
      have kp122 := hf56.1.1 _ _ hG_pk g49
      have kq123 : kb z61.toInt.toNat z110.toInt := ⟨⟨fun _ => by omega, fun _ _ _ => by omega, fun _ _ _ => by omega, fun _ => by omega⟩, fun _ _ => by omega, fun _ _ _ => by omega, fun _ => by omega, fun _ => by omega, fun _ => by omega, fun _ => by omega, fun _ => by omega, fun _ _ => by omega⟩
      have hf121 : F9 G F w112 := ⟨FM_k hf56.1 hG_pk g114 n117 (KP_up kp122 o116 (by rw [e115]; exact kq123) (by omega)), hF _ _ (smt_k (n119 prM (by decide)) g49 g114 n117 (fun j hj => o116 j (by omega))) hf56.2⟩
      refine ax_go 1 (y := (67, [some (.ref o), some (.int be), some (.int co), some (.int z6)], [.ref o], w112, 0, 0)) rfl trivial ?_
      refine hx_gf (l := 70) rfl rfl rfl ((n117 _ (hx_ne hG0 hG_pk (by decide))).trans ((n52 _ (hx_ne hG0 hG_pk (by decide))).trans ((n34 _ (hx_ne hG0 hG_pk (by decide))).trans ((n18 _ (hx_ne hG0 hG_pk (by decide))).trans g2)))) e_pk ?_
      refine hx_k (l := 72) (m := 110) rfl rfl (by decide) (fun z124 h125 => ?_)
      refine ax_go 1 (y := (73, [some (.ref o), some (.int be), some (.int co), some (.int z6)], [.int z124, .ref pk, .int z124, .ref pk], w112, 0, 0)) rfl trivial ?_
      have r126 := hx_rq hw118 g114 hG_pk (s := 32) rfl
      refine hx_il (l := 74) rfl rfl g114 (by omega) (by omega) (fun z127 h128 => ?_)
      rw [show z124.toInt.toNat = 110 by omega, o116 110 (by omega), o51 110 (by omega), o33 110 (by omega), o17 110 (by omega)] at h128
      replace h128 := congrArg Int32.toInt h128
      refine hx_k (l := 75) (m := 1) rfl rfl (by decide) (fun z129 h130 => ?_)
      refine hx_add (l := 76) rfl rfl (fun z131 h132 => ?_)
      replace h132 := h132 (by omega) (by omega)
      refine hx_is (s := 32) (l := 77) rfl rfl rfl hw118 hG_pk g114 (by omega) (by omega) (hx_sg1 (fun _ _ _ => ⟨by omega, by omega⟩) (hx_sg1 (fun _ _ _ => ⟨by omega, by omega⟩) (hx_sg1 (fun _ _ _ => ⟨by omega, by omega⟩) (hx_sg1 (fun _ _ _ => ⟨by omega, by omega⟩) (hx_sg1 (fun _ _ _ => ⟨by omega, by omega⟩) (hx_sg1 (fun _ _ _ => ⟨by omega, by omega⟩) (hx_sg1 (fun _ _ _ => ⟨by omega, by omega⟩) (hx_sg1 (fun _ _ _ => ⟨by omega, by omega⟩) (hx_sg1 (fun _ _ _ => ⟨by omega, by omega⟩) hx_sg0))))))))) (fun w133 f134 g135 e136 o137 n138 hw139 n140 => ?_)
      have hs141 := ty_same_tr hs120 (n140 fz (hx_ok hfz (by decide)))
      have kp143 := hf121.1.1 _ _ hG_pk g114
      have h71 : (f113 71).toInt = -1 := by
        rw [o116 71 (by omega), o51 71 (by omega), o33 71 (by omega)]
        by_cases zz : (f0 110).toInt = 0
        · rw [show 71 = z11.toInt.toNat by omega, e16]
          omega
        · rw [o17 71 (by omega)]
          exact (hf.1.1 _ _ hG_pk g_f0).2.1 (by omega)
      have kq76 : kb z124.toInt.toNat z131.toInt := ⟨⟨fun _ => by omega, fun _ _ _ => by omega, fun _ _ _ => by omega, fun _ => by omega⟩, fun _ _ => by omega, fun _ _ _ => by omega, fun _ => by omega, fun _ => by omega, fun _ => by omega, fun _ => by omega, fun _ => by omega, fun _ _ => by omega⟩
      have hf142 : F9 G F w133 := ⟨FM_k hf121.1 hG_pk g135 n138 (KP_up2 kp143 o137 (fun _ => by rw [e136]; exact kq76) (by omega) (fun e => by omega) (fun _ => Or.inr h71)), hF _ _ (smt_k (n140 prM (by decide)) g114 g135 n138 (fun j hj => o137 j (by omega))) hf121.2⟩
      exact ax_ret rfl rfl trivial ⟨none, _, rfl, hw139, hf142, hs141, trivial, trivial⟩
def fb_X9_parish : List (Nat × Nat) := [(8, 3), (8, 5), (19, 999), (33, 999), (34, 999), (35, 999), (44, 999), (45, 999), (1, 0), (18, 999), (2, 11), (2, 14), (1, 15), (54, 11), (4, 2), (7, 9), (30, 13), (30, 2), (30, 22), (30, 23), (30, 24), (30, 25), (46, 999), (47, 999), (30, 35), (30, 36), (7, 0), (24, 999), (37, 999), (30, 4), (30, 5), (30, 6), (30, 8), (30, 9), (30, 10), (30, 11), (30, 14), (30, 15), (30, 16), (30, 17), (30, 18), (30, 19), (30, 20), (30, 21), (39, 999), (40, 999), (41, 999), (30, 30), (30, 42), (30, 43), (30, 44), (1, 1), (1, 3), (1, 10), (1, 13), (8, 0), (30, 49), (2, 15), (8, 1)]
set_option maxHeartbeats 8000000 in
theorem h_X9_parish {ro : ab_R} {G : Nat → Nat} {fz : List (Nat × Nat)} {F : ab_W → Prop} (hF : ∀ w w', smt G w w' → F w → F w') (hfz : ∀ q ∈ fz, q ∈ fb_X9_parish) (d : Nat) : ck_ct ro sp_ G (F9 G F) fz (ab_Ev ro ab_codes (d + 3)) 136 [(2, 30, 0), (0, (-2147483648), 2147483647), (0, (-2147483648), 2147483647)] (some (0, (-2147483648), 2147483647)) 0 0 := by
  have hFF := F9_same hF
  refine ck_hand (d := d + 2) (by decide) (fun as w hw hf has => ?_)
  match as, has with
  | [v0, v1, v2], ⟨h0, h1, h2, _⟩ =>
    obtain ⟨o, rfl, _, hG0⟩ := ty_refn h0 rfl rfl
    replace hG0 : G o = 30 := hG0
    obtain ⟨be, rfl, hl1, hh1⟩ := ty_int h1 rfl
    replace hl1 : ((-2147483648) : Int) ≤ be.toInt := hl1
    replace hh1 : be.toInt ≤ 2147483647 := hh1
    obtain ⟨co, rfl, hl2, hh2⟩ := ty_int h2 rfl
    replace hl2 : ((-2147483648) : Int) ≤ co.toInt := hl2
    replace hh2 : co.toInt ≤ 2147483647 := hh2
    refine ⟨rfl, ?_⟩
    change ab_wp ro (ab_Ev ro ab_codes (d + 2)) 9 false (some .int) ab_k_X9_parish (fun o_1 => ∃ v w1, o_1 = (v, w1, 0, 0) ∧ ty_w sp_ G w1 ∧ (F9 G F) w1 ∧ ty_same G fz w w1 ∧ ck_res G (some (0, (-2147483648), 2147483647)) v ∧ ck_wit 0 0 [.ref o, .int be, .int co] v) (0, [some (.ref o), some (.int be), some (.int co)], [], w, 0, 0)
    refine ax_go 3 (y := (3, [some (.ref o), some (.int be), some (.int co)], [.int co, .int be, .ref o], w, 0, 0)) rfl trivial ?_
    obtain ⟨fs1, g2, -, q3⟩ := hx_obj hw hG0 (s := 30) rfl (by decide)
    refine hx_pi (l := 6) (as := [.ref o, .int be, .int co]) rfl rfl (hx_iv (j := 134) (n := 2) (o := o) (r := []) rfl rfl g2 rfl) (hp_X9_canParish (fz := fz) hF (fun q hq => (by decide +kernel : ∀ q ∈ fb_X9_parish, q ∈ fb_hp_X9_canParish) q (hfz q hq)) (d + 0)) hw hf ⟨(hx_tr (G := G) (s := 30) (b := 0) hG0 (by decide)), (ck_top_ok (G := G) be), (ck_top_ok (G := G) co), trivial⟩ trivial (fun w4 z9 hw5 hf6 m7 a10 b11 u12 => ?_)
    rw [u12.1]
    obtain ⟨p13, e14, hG15⟩ := hx_fr (k := 2) (s := 32) q3 rfl
    obtain ⟨f16, g17, r18⟩ := hx_row hw hG15 (s := 32) (kd := 0) (n := 5721) rfl (by decide)
    have u19 := u12.2 _ _ _ _ _ _ rfl ⟨_, g2, e14⟩ g17 rfl
    clear u12
    refine hx_if_ne (l := 9) rfl rfl (fun h20 => ?_) (fun h20 => ?_)
    · -- 15
      replace u19 := u19.1 (by omega)
      refine ax_go 1 (y := (16, [some (.ref o), some (.int be), some (.int co)], [.ref o], w, 0, 0)) rfl trivial ?_
      refine hx_gf (l := 19) rfl rfl rfl g2 e14 ?_
      refine hx_k (l := 21) (m := 110) rfl rfl (by decide) (fun z21 h22 => ?_)
      refine hx_il (l := 22) rfl rfl g17 (by omega) (by omega) (fun z23 h24 => ?_)
      have b25 := ((hf.1.1 _ _ hG15 g17).1 z21.toInt.toNat (by omega)).2.2.2.2.1 (by omega)
      rw [← h24] at b25
      rw [show z21.toInt.toNat = 110 by omega] at h24
      replace h24 := congrArg Int32.toInt h24
      refine hx_k (l := 24) (m := 10) rfl rfl (by decide) (fun z26 h27 => ?_)
      refine hx_ic_ne (l := 27) rfl rfl (fun h28 => ?_) (fun h28 => ?_)
      · -- 34
        refine ax_go 3 (y := (37, [some (.ref o), some (.int be), some (.int co)], [.int co, .int be, .ref o], w, 0, 0)) rfl trivial ?_
        refine hx_p0 (l := 40) (as := [.ref o, .int be, .int co]) rfl rfl (hx_iv (j := 135) (n := 2) (o := o) (r := []) rfl rfl g2 rfl) (hp_X9_addsParish (fz := fz) hF (fun q hq => (by decide +kernel : ∀ q ∈ fb_X9_parish, q ∈ fb_hp_X9_addsParish) q (hfz q hq)) (d + 1)) hw hf ⟨(hx_tr (G := G) (s := 30) (b := 0) hG0 (by decide)), (ck_top_ok (G := G) be), (ck_top_ok (G := G) co), trivial⟩ (fun y0 y1 y2 pk1 f1 h1 h2 h3 => by cases h1; obtain ⟨fs1, g1, e1⟩ := h2; obtain rfl := hx_inj g2 g1; cases e14.symm.trans e1; obtain rfl := hx_injr g17 h3; exact ⟨by omega, by omega, by omega, by omega, by omega⟩) (fun w29 hw30 hf31 m32 u37 => ?_)
        have hs33 := ty_same_tr (ty_same_rf w) m32
        refine ax_go 2 (y := (42, [some (.ref o), some (.int be), some (.int co)], [.ref o, .ref o], w29, 0, 0)) rfl trivial ?_
        obtain ⟨fs38, g39, -, q40⟩ := hx_obj hw30 hG0 (s := 30) rfl (by decide)
        obtain ⟨p41, e42, hG43⟩ := hx_fr (k := 2) (s := 32) q40 rfl
        refine hx_gf (l := 45) rfl rfl rfl g39 e42 ?_
        refine hx_k (l := 47) (m := 110) rfl rfl (by decide) (fun z44 h45 => ?_)
        obtain ⟨f46, g47, r48⟩ := hx_row hw30 hG43 (s := 32) (kd := 0) (n := 5721) rfl (by decide)
        refine hx_il (l := 48) rfl rfl g47 (by omega) (by omega) (fun z49 h50 => ?_)
        have b51 := ((hf31.1.1 _ _ hG43 g47).1 z44.toInt.toNat (by omega)).2.2.2.2.1 (by omega)
        rw [← h50] at b51
        refine hx_k (l := 49) (m := 1) rfl rfl (by decide) (fun z52 h53 => ?_)
        refine hx_sub (l := 50) rfl rfl (fun z54 h55 => ?_)
        replace h55 := h55 (by omega) (by omega)
        refine hx_ci (l := 53) (as := [.ref o, .int z54]) rfl rfl (hx_iv (j := 126) (n := 1) (o := o) (r := []) rfl rfl g39 rfl) (h_X9_settled (fz := fz) hF (fun q hq => (by decide +kernel : ∀ q ∈ fb_X9_parish, q ∈ fb_X9_settled) q (hfz q hq)) (d + 0)) hw30 hf31 ⟨(hx_tr (G := G) (s := 30) (b := 0) hG0 (by decide)), (ck_top_ok (G := G) z54), trivial⟩ (fun w56 z61 hw57 hf58 m59 a62 b63 u64 => ?_)
        have hs60 := ty_same_tr hs33 m59
        exact ax_ret rfl rfl trivial ⟨some (.int z61), _, rfl, hw57, hf58, hs60, (ck_top_ok (G := G) z61), trivial⟩
      · -- 27
        refine ax_go 1 (y := (28, [some (.ref o), some (.int be), some (.int co)], [.ref o], w, 0, 0)) rfl trivial ?_
        refine hx_k (l := 30) (m := (-5)) rfl rfl (by decide) (fun z65 h66 => ?_)
        refine hx_ci (l := 33) (as := [.ref o, .int z65]) rfl rfl (hx_iv (j := 124) (n := 1) (o := o) (r := []) rfl rfl g2 rfl) (cc_X9_refuses_0 (fz := fz) hFF  (fun q hq => (by decide +kernel : ∀ q ∈ fb_X9_parish, q ∈ fr_X9_refuses_0) q (hfz q hq)) (d + 1)) hw hf ⟨(hx_tr (G := G) (s := 30) (b := 0) hG0 (by decide)), (hx_ti (G := G) (lo := (-6)) (hi := (-1)) (by omega) (by omega)), trivial⟩ (fun w67 z72 hw68 hf69 m70 a73 b74 u75 => ?_)
        have hs71 := ty_same_tr (ty_same_rf w) m70
        exact ax_ret rfl rfl trivial ⟨some (.int z72), _, rfl, hw68, hf69, hs71, (ck_top_ok (G := G) z72), trivial⟩
    · -- 9
      clear u19
      refine ax_go 1 (y := (10, [some (.ref o), some (.int be), some (.int co)], [.ref o], w, 0, 0)) rfl trivial ?_
      refine hx_k (l := 11) (m := (-1)) rfl rfl (by decide) (fun z76 h77 => ?_)
      refine hx_ci (l := 14) (as := [.ref o, .int z76]) rfl rfl (hx_iv (j := 124) (n := 1) (o := o) (r := []) rfl rfl g2 rfl) (cc_X9_refuses_0 (fz := fz) hFF  (fun q hq => (by decide +kernel : ∀ q ∈ fb_X9_parish, q ∈ fr_X9_refuses_0) q (hfz q hq)) (d + 1)) hw hf ⟨(hx_tr (G := G) (s := 30) (b := 0) hG0 (by decide)), (hx_ti (G := G) (lo := (-6)) (hi := (-1)) (by omega) (by omega)), trivial⟩ (fun w78 z83 hw79 hf80 m81 a84 b85 u86 => ?_)
      have hs82 := ty_same_tr (ty_same_rf w) m81
      exact ax_ret rfl rfl trivial ⟨some (.int z83), _, rfl, hw79, hf80, hs82, (ck_top_ok (G := G) z83), trivial⟩
def fb_X9_forget : List (Nat × Nat) := [(8, 3), (8, 5), (19, 999), (33, 999), (34, 999), (35, 999), (44, 999), (45, 999), (1, 0), (18, 999), (2, 11), (2, 14), (1, 15), (54, 11), (4, 2), (7, 9), (30, 13), (30, 34), (30, 2), (30, 22), (30, 23), (30, 24), (30, 25), (46, 999), (47, 999), (30, 35), (30, 36), (7, 0), (24, 999), (37, 999), (30, 4), (30, 5), (30, 6), (30, 8), (30, 9), (30, 10), (30, 11), (30, 14), (30, 15), (30, 16), (30, 17), (30, 18), (30, 19), (30, 20), (30, 21), (39, 999), (40, 999), (41, 999), (30, 30), (30, 42), (30, 43), (30, 44), (1, 1), (1, 3), (1, 10), (1, 13), (8, 0), (30, 49), (2, 15), (8, 1)]
set_option maxHeartbeats 8000000 in
theorem h_X9_forget {ro : ab_R} {G : Nat → Nat} {fz : List (Nat × Nat)} {F : ab_W → Prop} (hF : ∀ w w', smt G w w' → F w → F w') (hfz : ∀ q ∈ fz, q ∈ fb_X9_forget) (d : Nat) : ck_ct ro sp_ G (F9 G F) fz (ab_Ev ro ab_codes (d + 1)) 219 [(2, 30, 0)] (some (0, (-2147483648), 2147483647)) 0 0 := by
  have hFF := F9_same hF
  refine ck_hand (d := d + 0) (by decide) (fun as w hw hf has => ?_)
  match as, has with
  | [v0], ⟨h0, _⟩ =>
    obtain ⟨o, rfl, _, hG0⟩ := ty_refn h0 rfl rfl
    replace hG0 : G o = 30 := hG0
    refine ⟨rfl, ?_⟩
    change ab_wp ro (ab_Ev ro ab_codes d) 9 false (some .int) ab_k_X9_forget (fun o_1 => ∃ v w1, o_1 = (v, w1, 0, 0) ∧ ty_w sp_ G w1 ∧ (F9 G F) w1 ∧ ty_same G fz w w1 ∧ ck_res G (some (0, (-2147483648), 2147483647)) v ∧ ck_wit 0 0 [.ref o] v) (0, [some (.ref o), none], [], w, 0, 0)
    refine ax_go 1 (y := (1, [some (.ref o), none], [.ref o], w, 0, 0)) rfl trivial ?_
    obtain ⟨fs1, g2, -, q3⟩ := hx_obj hw hG0 (s := 30) rfl (by decide)
    obtain ⟨p4, e5, hG6⟩ := hx_fr (k := 2) (s := 32) q3 rfl
    refine hx_gf (l := 4) rfl rfl rfl g2 e5 ?_
    refine hx_k (l := 6) (m := 111) rfl rfl (by decide) (fun z7 h8 => ?_)
    obtain ⟨f9, g10, r11⟩ := hx_row hw hG6 (s := 32) (kd := 0) (n := 5721) rfl (by decide)
    refine hx_il (l := 7) rfl rfl g10 (by omega) (by omega) (fun z12 h13 => ?_)
    refine ax_go 2 (y := (9, [some (.ref o), some (.int z12)], [.ref o], w, 0, 0)) rfl trivial ?_
    refine hx_gf (l := 12) rfl rfl rfl g2 e5 ?_
    refine hx_k (l := 14) (m := 111) rfl rfl (by decide) (fun z14 h15 => ?_)
    refine hx_k (l := 15) (m := 0) rfl rfl (by decide) (fun z16 h17 => ?_)
    refine hx_is (s := 32) (l := 16) rfl rfl rfl hw hG6 g10 (by omega) (by omega) (hx_sg1 (fun _ _ _ => ⟨by omega, by omega⟩) (hx_sg1 (fun _ _ _ => ⟨by omega, by omega⟩) (hx_sg1 (fun _ _ _ => ⟨by omega, by omega⟩) (hx_sg1 (fun _ _ _ => ⟨by omega, by omega⟩) (hx_sg1 (fun _ _ _ => ⟨by omega, by omega⟩) (hx_sg1 (fun _ _ _ => ⟨by omega, by omega⟩) (hx_sg1 (fun _ _ _ => ⟨by omega, by omega⟩) (hx_sg1 (fun _ _ _ => ⟨by omega, by omega⟩) (hx_sg1 (fun _ _ _ => ⟨by omega, by omega⟩) hx_sg0))))))))) (fun w18 f19 g20 e21 o22 n23 hw24 n25 => ?_)
    have hs26 := ty_same_tr (ty_same_rf w) (n25 fz (hx_ok hfz (by decide)))
    have kp28 := hf.1.1 _ _ hG6 g10
    have kq29 : kb z14.toInt.toNat z16.toInt := ⟨⟨fun _ => by omega, fun _ _ _ => by omega, fun _ _ _ => by omega, fun _ => by omega⟩, fun _ _ => by omega, fun _ _ _ => by omega, fun _ => by omega, fun _ => by omega, fun _ => by omega, fun _ => by omega, fun _ => by omega, fun _ _ => by omega⟩
    have hf27 : F9 G F w18 := ⟨FM_k hf.1 hG6 g20 n23 (KP_up kp28 o22 (by rw [e21]; exact kq29) (by omega)), hF _ _ (smt_k (n25 prM (by decide)) g10 g20 n23 (fun j hj => o22 j (by omega))) hf.2⟩
    refine ax_go 1 (y := (17, [some (.ref o), some (.int z12)], [.int z12], w18, 0, 0)) rfl trivial ?_
    exact ax_ret rfl rfl trivial ⟨some (.int z12), _, rfl, hw24, hf27, hs26, (ck_top_ok (G := G) z12), trivial⟩
def fb_X9_hear : List (Nat × Nat) := [(8, 3), (8, 5), (19, 999), (33, 999), (34, 999), (35, 999), (44, 999), (45, 999), (1, 0), (18, 999), (2, 11), (2, 14), (1, 15), (54, 11), (4, 2), (7, 9), (30, 13), (30, 34), (30, 2), (30, 22), (30, 23), (30, 24), (30, 25), (46, 999), (47, 999), (30, 35), (30, 36), (7, 0), (24, 999), (37, 999), (30, 4), (30, 5), (30, 6), (30, 8), (30, 9), (30, 10), (30, 11), (30, 14), (30, 15), (30, 16), (30, 17), (30, 18), (30, 19), (30, 20), (30, 21), (39, 999), (40, 999), (41, 999), (30, 30), (30, 42), (30, 43), (30, 44), (1, 1), (1, 3), (1, 10), (1, 13), (8, 0), (30, 49), (2, 15), (8, 1)]
set_option maxHeartbeats 8000000 in
theorem h_X9_hear {ro : ab_R} {G : Nat → Nat} {fz : List (Nat × Nat)} {F : ab_W → Prop} (hF : ∀ w w', smt G w w' → F w → F w') (hfz : ∀ q ∈ fz, q ∈ fb_X9_hear) (d : Nat) : ck_ct ro sp_ G (F9 G F) fz (ab_Ev ro ab_codes (d + 3)) 218 [(2, 30, 0), (0, (-2147483648), 2147483647), (0, (-2147483648), 2147483647)] (some (0, (-2147483648), 2147483647)) 0 0 := by
  have hFF := F9_same hF
  refine ck_hand (d := d + 2) (by decide) (fun as w hw hf has => ?_)
  match as, has with
  | [v0, v1, v2], ⟨h0, h1, h2, _⟩ =>
    obtain ⟨o, rfl, _, hG0⟩ := ty_refn h0 rfl rfl
    replace hG0 : G o = 30 := hG0
    obtain ⟨p, rfl, hl1, hh1⟩ := ty_int h1 rfl
    replace hl1 : ((-2147483648) : Int) ≤ p.toInt := hl1
    replace hh1 : p.toInt ≤ 2147483647 := hh1
    obtain ⟨ov, rfl, hl2, hh2⟩ := ty_int h2 rfl
    replace hl2 : ((-2147483648) : Int) ≤ ov.toInt := hl2
    replace hh2 : ov.toInt ≤ 2147483647 := hh2
    refine ⟨rfl, ?_⟩
    change ab_wp ro (ab_Ev ro ab_codes (d + 2)) 9 false (some .int) ab_k_X9_hear (fun o_1 => ∃ v w1, o_1 = (v, w1, 0, 0) ∧ ty_w sp_ G w1 ∧ (F9 G F) w1 ∧ ty_same G fz w w1 ∧ ck_res G (some (0, (-2147483648), 2147483647)) v ∧ ck_wit 0 0 [.ref o, .int p, .int ov] v) (0, [some (.ref o), some (.int p), some (.int ov), none], [], w, 0, 0)
    refine ax_go 1 (y := (1, [some (.ref o), some (.int p), some (.int ov), none], [.int ov], w, 0, 0)) rfl trivial ?_
    refine hx_k (l := 2) (m := 0) rfl rfl (by decide) (fun z1 h2 => ?_)
    refine hx_k (l := 4) (m := 98) rfl rfl (by decide) (fun z3 h4 => ?_)
    refine hx_pi (l := 7) (as := [.int ov, .int z1, .int z3]) rfl rfl rfl (hp_X9_lies (fz := fz) hFF (fun q hq => (by decide +kernel : ∀ q ∈ fb_X9_hear, q ∈ fb_hp_X9_lies) q (hfz q hq)) (d + 1)) hw hf ⟨(ck_top_ok (G := G) ov), (ck_top_ok (G := G) z1), (ck_top_ok (G := G) z3), trivial⟩ trivial (fun w5 z10 hw6 hf7 m8 a11 b12 u13 => ?_)
    rw [u13.1]
    have u14 := u13.2 _ _ _ _ rfl rfl
    clear u13
    refine hx_if_ne (l := 10) rfl rfl (fun h15 => ?_) (fun h15 => ?_)
    · -- 16
      replace u14 := u14.1 (by omega)
      refine ax_go 2 (y := (18, [some (.ref o), some (.int p), some (.int ov), none], [.int p, .ref o], w, 0, 0)) rfl trivial ?_
      obtain ⟨fs16, g17, -, q18⟩ := hx_obj hw hG0 (s := 30) rfl (by decide)
      refine hx_pi (l := 21) (as := [.ref o, .int p]) rfl rfl (hx_iv (j := 133) (n := 1) (o := o) (r := []) rfl rfl g17 rfl) (hp_X9_isParish (fz := fz) hF (fun q hq => (by decide +kernel : ∀ q ∈ fb_X9_hear, q ∈ fb_hp_X9_isParish) q (hfz q hq)) (d + 0)) hw hf ⟨(hx_tr (G := G) (s := 30) (b := 0) hG0 (by decide)), (ck_top_ok (G := G) p), trivial⟩ trivial (fun w19 z24 hw20 hf21 m22 a25 b26 u27 => ?_)
      rw [u27.1]
      obtain ⟨p28, e29, hG30⟩ := hx_fr (k := 2) (s := 32) q18 rfl
      obtain ⟨f31, g32, r33⟩ := hx_row hw hG30 (s := 32) (kd := 0) (n := 5721) rfl (by decide)
      have u34 := u27.2 _ _ _ _ _ rfl ⟨_, g17, e29⟩ g32 rfl
      clear u27
      have b35 := ((hf.1.1 _ _ hG30 g32).1 110 (by decide)).2.2.2.2.1 rfl
      refine hx_if_ne (l := 24) rfl rfl (fun h36 => ?_) (fun h36 => ?_)
      · -- 31
        replace u34 := u34.1 (by omega)
        refine ax_go 1 (y := (32, [some (.ref o), some (.int p), some (.int ov), none], [.ref o], w, 0, 0)) rfl trivial ?_
        refine hx_gf (l := 35) rfl rfl rfl g17 e29 ?_
        refine hx_k (l := 37) (m := 111) rfl rfl (by decide) (fun z37 h38 => ?_)
        refine hx_il (l := 38) rfl rfl g32 (by omega) (by omega) (fun z39 h40 => ?_)
        have b41 := ((hf.1.1 _ _ hG30 g32).1 z37.toInt.toNat (by omega)).2.2.2.2.2.1 (by omega)
        rw [← h40] at b41
        refine ax_go 2 (y := (40, [some (.ref o), some (.int p), some (.int ov), some (.int z39)], [.int z39], w, 0, 0)) rfl trivial ?_
        refine hx_k (l := 42) (m := 8) rfl rfl (by decide) (fun z42 h43 => ?_)
        refine hx_ic_ne (l := 45) rfl rfl (fun h44 => ?_) (fun h44 => ?_)
        · -- 52
          refine ax_go 1 (y := (53, [some (.ref o), some (.int p), some (.int ov), some (.int z39)], [.ref o], w, 0, 0)) rfl trivial ?_
          refine hx_gf (l := 56) rfl rfl rfl g17 e29 ?_
          refine hx_k (l := 58) (m := 91) rfl rfl (by decide) (fun z45 h46 => ?_)
          refine hx_k (l := 59) (m := 2) rfl rfl (by decide) (fun z47 h48 => ?_)
          refine ax_go 1 (y := (60, [some (.ref o), some (.int p), some (.int ov), some (.int z39)], [.int z39, .int z47, .int z45, .ref p28], w, 0, 0)) rfl trivial ?_
          refine hx_mul (l := 61) rfl rfl (fun z49 h50 => ?_)
          rw [h48] at h50
          replace h50 := h50 (by omega) (by omega)
          refine hx_add (l := 62) rfl rfl (fun z51 h52 => ?_)
          replace h52 := h52 (by omega) (by omega)
          refine ax_go 1 (y := (63, [some (.ref o), some (.int p), some (.int ov), some (.int z39)], [.int p, .int z51, .ref p28], w, 0, 0)) rfl trivial ?_
          refine hx_is (s := 32) (l := 64) rfl rfl rfl hw hG30 g32 (by omega) (by omega) (hx_sg1 (fun _ _ _ => ⟨by omega, by omega⟩) (hx_sg1 (fun _ _ _ => ⟨by omega, by omega⟩) (hx_sg1 (fun _ _ _ => ⟨by omega, by omega⟩) (hx_sg1 (fun _ _ _ => ⟨by omega, by omega⟩) (hx_sg1 (fun _ _ _ => ⟨by omega, by omega⟩) (hx_sg1 (fun _ _ _ => ⟨by omega, by omega⟩) (hx_sg1 (fun _ _ _ => ⟨by omega, by omega⟩) (hx_sg1 (fun _ _ _ => ⟨by omega, by omega⟩) (hx_sg1 (fun _ _ _ => ⟨by omega, by omega⟩) hx_sg0))))))))) (fun w53 f54 g55 e56 o57 n58 hw59 n60 => ?_)
          have hs61 := ty_same_tr (ty_same_rf w) (n60 fz (hx_ok hfz (by decide)))
          have kp63 := hf.1.1 _ _ hG30 g32
          have kq64 : kb z51.toInt.toNat p.toInt := ⟨⟨fun _ => by omega, fun _ _ _ => by omega, fun _ _ _ => by omega, fun _ => by omega⟩, fun _ _ => by omega, fun _ _ _ => by omega, fun _ => by omega, fun _ => by omega, fun _ => by omega, fun _ => by omega, fun _ => by omega, fun _ _ => by omega⟩
          have hf62 : F9 G F w53 := ⟨FM_k hf.1 hG30 g55 n58 (KP_up kp63 o57 (by rw [e56]; exact kq64) (by omega)), hF _ _ (smt_k (n60 prM (by decide)) g32 g55 n58 (fun j hj => o57 j (by omega))) hf.2⟩
          refine ax_go 1 (y := (65, [some (.ref o), some (.int p), some (.int ov), some (.int z39)], [.ref o], w53, 0, 0)) rfl trivial ?_
          refine hx_gf (l := 68) rfl rfl rfl ((n58 _ (hx_ne hG0 hG30 (by decide))).trans g17) e29 ?_
          refine hx_k (l := 70) (m := 91) rfl rfl (by decide) (fun z65 h66 => ?_)
          refine hx_k (l := 71) (m := 2) rfl rfl (by decide) (fun z67 h68 => ?_)
          refine ax_go 1 (y := (72, [some (.ref o), some (.int p), some (.int ov), some (.int z39)], [.int z39, .int z67, .int z65, .ref p28], w53, 0, 0)) rfl trivial ?_
          refine hx_mul (l := 73) rfl rfl (fun z69 h70 => ?_)
          rw [h68] at h70
          replace h70 := h70 (by omega) (by omega)
          refine hx_add (l := 74) rfl rfl (fun z71 h72 => ?_)
          replace h72 := h72 (by omega) (by omega)
          refine hx_k (l := 75) (m := 1) rfl rfl (by decide) (fun z73 h74 => ?_)
          refine hx_add (l := 76) rfl rfl (fun z75 h76 => ?_)
          replace h76 := h76 (by omega) (by omega)
          refine ax_go 1 (y := (77, [some (.ref o), some (.int p), some (.int ov), some (.int z39)], [.int ov, .int z75, .ref p28], w53, 0, 0)) rfl trivial ?_
          refine hx_is (s := 32) (l := 78) rfl rfl rfl hw59 hG30 g55 (by omega) (by omega) (hx_sg1 (fun _ _ _ => ⟨by omega, by omega⟩) (hx_sg1 (fun _ _ _ => ⟨by omega, by omega⟩) (hx_sg1 (fun _ _ _ => ⟨by omega, by omega⟩) (hx_sg1 (fun _ _ _ => ⟨by omega, by omega⟩) (hx_sg1 (fun _ _ _ => ⟨by omega, by omega⟩) (hx_sg1 (fun _ _ _ => ⟨by omega, by omega⟩) (hx_sg1 (fun _ _ _ => ⟨by omega, by omega⟩) (hx_sg1 (fun _ _ _ => ⟨by omega, by omega⟩) (hx_sg1 (fun _ _ _ => ⟨by omega, by omega⟩) hx_sg0))))))))) (fun w77 f78 g79 e80 o81 n82 hw83 n84 => ?_)
          have hs85 := ty_same_tr hs61 (n84 fz (hx_ok hfz (by decide)))
          have kp87 := hf62.1.1 _ _ hG30 g55
          have kq88 : kb z75.toInt.toNat ov.toInt := ⟨⟨fun _ => by omega, fun _ _ _ => by omega, fun _ _ _ => by omega, fun _ => by omega⟩, fun _ _ => by omega, fun _ _ _ => by omega, fun _ => by omega, fun _ => by omega, fun _ => by omega, fun _ => by omega, fun _ => by omega, fun _ _ => by omega⟩
          have hf86 : F9 G F w77 := ⟨FM_k hf62.1 hG30 g79 n82 (KP_up kp87 o81 (by rw [e80]; exact kq88) (by omega)), hF _ _ (smt_k (n84 prM (by decide)) g55 g79 n82 (fun j hj => o81 j (by omega))) hf62.2⟩
          refine ax_go 1 (y := (79, [some (.ref o), some (.int p), some (.int ov), some (.int z39)], [.ref o], w77, 0, 0)) rfl trivial ?_
          refine hx_gf (l := 82) rfl rfl rfl ((n82 _ (hx_ne hG0 hG30 (by decide))).trans ((n58 _ (hx_ne hG0 hG30 (by decide))).trans g17)) e29 ?_
          refine hx_k (l := 84) (m := 111) rfl rfl (by decide) (fun z89 h90 => ?_)
          refine ax_go 1 (y := (85, [some (.ref o), some (.int p), some (.int ov), some (.int z39)], [.int z89, .ref p28, .int z89, .ref p28], w77, 0, 0)) rfl trivial ?_
          have r91 := hx_rq hw83 g79 hG30 (s := 32) rfl
          refine hx_il (l := 86) rfl rfl g79 (by omega) (by omega) (fun z92 h93 => ?_)
          have b94 := ((hf86.1.1 _ _ hG30 g79).1 z89.toInt.toNat (by omega)).2.2.2.2.2.1 (by omega)
          rw [← h93] at b94
          have b95 : z92.toInt = z39.toInt := by rw [h93, o81 z89.toInt.toNat (by omega), o57 z89.toInt.toNat (by omega), h40, show z89.toInt.toNat = z37.toInt.toNat by omega]
          refine hx_k (l := 87) (m := 1) rfl rfl (by decide) (fun z96 h97 => ?_)
          refine hx_add (l := 88) rfl rfl (fun z98 h99 => ?_)
          replace h99 := h99 (by omega) (by omega)
          refine hx_is (s := 32) (l := 89) rfl rfl rfl hw83 hG30 g79 (by omega) (by omega) (hx_sg1 (fun _ _ _ => ⟨by omega, by omega⟩) (hx_sg1 (fun _ _ _ => ⟨by omega, by omega⟩) (hx_sg1 (fun _ _ _ => ⟨by omega, by omega⟩) (hx_sg1 (fun _ _ _ => ⟨by omega, by omega⟩) (hx_sg1 (fun _ _ _ => ⟨by omega, by omega⟩) (hx_sg1 (fun _ _ _ => ⟨by omega, by omega⟩) (hx_sg1 (fun _ _ _ => ⟨by omega, by omega⟩) (hx_sg1 (fun _ _ _ => ⟨by omega, by omega⟩) (hx_sg1 (fun _ _ _ => ⟨by omega, by omega⟩) hx_sg0))))))))) (fun w100 f101 g102 e103 o104 n105 hw106 n107 => ?_)
          have hs108 := ty_same_tr hs85 (n107 fz (hx_ok hfz (by decide)))
          have kp110 := hf86.1.1 _ _ hG30 g79
          have kq111 : kb z89.toInt.toNat z98.toInt := ⟨⟨fun _ => by omega, fun _ _ _ => by omega, fun _ _ _ => by omega, fun _ => by omega⟩, fun _ _ => by omega, fun _ _ _ => by omega, fun _ => by omega, fun _ => by omega, fun _ => by omega, fun _ => by omega, fun _ => by omega, fun _ _ => by omega⟩
          have hf109 : F9 G F w100 := ⟨FM_k hf86.1 hG30 g102 n105 (KP_up kp110 o104 (by rw [e103]; exact kq111) (by omega)), hF _ _ (smt_k (n107 prM (by decide)) g79 g102 n105 (fun j hj => o104 j (by omega))) hf86.2⟩
          refine ax_go 2 (y := (91, [some (.ref o), some (.int p), some (.int ov), some (.int z39)], [.int z39, .ref o], w100, 0, 0)) rfl trivial ?_
          refine hx_k (l := 92) (m := 1) rfl rfl (by decide) (fun z112 h113 => ?_)
          refine hx_add (l := 93) rfl rfl (fun z114 h115 => ?_)
          replace h115 := h115 (by omega) (by omega)
          refine hx_ci (l := 96) (as := [.ref o, .int z114]) rfl rfl (hx_iv (j := 125) (n := 1) (o := o) (r := []) rfl rfl ((n105 _ (hx_ne hG0 hG30 (by decide))).trans ((n82 _ (hx_ne hG0 hG30 (by decide))).trans ((n58 _ (hx_ne hG0 hG30 (by decide))).trans g17))) rfl) (cc_X9_good_0 (fz := fz) hFF  (fun q hq => (by decide +kernel : ∀ q ∈ fb_X9_hear, q ∈ fr_X9_good_0) q (hfz q hq)) (d + 1)) hw106 hf109 ⟨(hx_tr (G := G) (s := 30) (b := 0) hG0 (by decide)), (ck_top_ok (G := G) z114), trivial⟩ (fun w116 z121 hw117 hf118 m119 a122 b123 u124 => ?_)
          have hs120 := ty_same_tr hs108 m119
          exact ax_ret rfl rfl trivial ⟨some (.int z121), _, rfl, hw117, hf118, hs120, (ck_top_ok (G := G) z121), trivial⟩
        · -- 45
          refine ax_go 1 (y := (46, [some (.ref o), some (.int p), some (.int ov), some (.int z39)], [.ref o], w, 0, 0)) rfl trivial ?_
          refine hx_k (l := 48) (m := (-5)) rfl rfl (by decide) (fun z125 h126 => ?_)
          refine hx_ci (l := 51) (as := [.ref o, .int z125]) rfl rfl (hx_iv (j := 124) (n := 1) (o := o) (r := []) rfl rfl g17 rfl) (cc_X9_refuses_0 (fz := fz) hFF  (fun q hq => (by decide +kernel : ∀ q ∈ fb_X9_hear, q ∈ fr_X9_refuses_0) q (hfz q hq)) (d + 1)) hw hf ⟨(hx_tr (G := G) (s := 30) (b := 0) hG0 (by decide)), (hx_ti (G := G) (lo := (-6)) (hi := (-1)) (by omega) (by omega)), trivial⟩ (fun w127 z132 hw128 hf129 m130 a133 b134 u135 => ?_)
          have hs131 := ty_same_tr (ty_same_rf w) m130
          exact ax_ret rfl rfl trivial ⟨some (.int z132), _, rfl, hw128, hf129, hs131, (ck_top_ok (G := G) z132), trivial⟩
      · -- 24
        clear u34
        refine ax_go 1 (y := (25, [some (.ref o), some (.int p), some (.int ov), none], [.ref o], w, 0, 0)) rfl trivial ?_
        refine hx_k (l := 27) (m := (-2)) rfl rfl (by decide) (fun z136 h137 => ?_)
        refine hx_ci (l := 30) (as := [.ref o, .int z136]) rfl rfl (hx_iv (j := 124) (n := 1) (o := o) (r := []) rfl rfl g17 rfl) (cc_X9_refuses_0 (fz := fz) hFF  (fun q hq => (by decide +kernel : ∀ q ∈ fb_X9_hear, q ∈ fr_X9_refuses_0) q (hfz q hq)) (d + 1)) hw hf ⟨(hx_tr (G := G) (s := 30) (b := 0) hG0 (by decide)), (hx_ti (G := G) (lo := (-6)) (hi := (-1)) (by omega) (by omega)), trivial⟩ (fun w138 z143 hw139 hf140 m141 a144 b145 u146 => ?_)
        have hs142 := ty_same_tr (ty_same_rf w) m141
        exact ax_ret rfl rfl trivial ⟨some (.int z143), _, rfl, hw139, hf140, hs142, (ck_top_ok (G := G) z143), trivial⟩
    · -- 10
      clear u14
      refine ax_go 1 (y := (11, [some (.ref o), some (.int p), some (.int ov), none], [.ref o], w, 0, 0)) rfl trivial ?_
      refine hx_k (l := 12) (m := (-1)) rfl rfl (by decide) (fun z147 h148 => ?_)
      obtain ⟨fs149, g150, -, q151⟩ := hx_obj hw hG0 (s := 30) rfl (by decide)
      refine hx_ci (l := 15) (as := [.ref o, .int z147]) rfl rfl (hx_iv (j := 124) (n := 1) (o := o) (r := []) rfl rfl g150 rfl) (cc_X9_refuses_0 (fz := fz) hFF  (fun q hq => (by decide +kernel : ∀ q ∈ fb_X9_hear, q ∈ fr_X9_refuses_0) q (hfz q hq)) (d + 1)) hw hf ⟨(hx_tr (G := G) (s := 30) (b := 0) hG0 (by decide)), (hx_ti (G := G) (lo := (-6)) (hi := (-1)) (by omega) (by omega)), trivial⟩ (fun w152 z157 hw153 hf154 m155 a158 b159 u160 => ?_)
      have hs156 := ty_same_tr (ty_same_rf w) m155
      exact ax_ret rfl rfl trivial ⟨some (.int z157), _, rfl, hw153, hf154, hs156, (ck_top_ok (G := G) z157), trivial⟩
def fb_X9_force : List (Nat × Nat) := [(8, 3), (8, 5), (19, 999), (33, 999), (34, 999), (35, 999), (44, 999), (45, 999), (1, 0), (18, 999), (2, 11), (2, 14), (1, 15), (54, 11), (4, 2), (7, 9), (30, 13), (30, 34), (30, 2), (30, 22), (30, 23), (30, 24), (30, 25), (46, 999), (47, 999), (30, 35), (30, 36), (7, 0), (24, 999), (37, 999), (30, 4), (30, 5), (30, 6), (30, 8), (30, 9), (30, 10), (30, 11), (30, 14), (30, 15), (30, 16), (30, 17), (30, 18), (30, 19), (30, 20), (30, 21), (39, 999), (40, 999), (41, 999), (30, 30), (30, 42), (30, 43), (30, 44), (1, 1), (1, 3), (1, 10), (1, 13), (8, 0), (30, 49), (2, 15), (8, 1)]
set_option maxHeartbeats 8000000 in
theorem h_X9_force {ro : ab_R} {G : Nat → Nat} {fz : List (Nat × Nat)} {F : ab_W → Prop} (hF : ∀ w w', smt G w w' → F w → F w') (hfz : ∀ q ∈ fz, q ∈ fb_X9_force) (d : Nat) : ck_ct ro sp_ G (F9 G F) fz (ab_Ev ro ab_codes (d + 2)) 171 [(2, 30, 0), (0, (-2147483648), 2147483647)] (some (0, (-2147483648), 2147483647)) 0 0 := by
  have hFF := F9_same hF
  refine ck_hand (d := d + 1) (by decide) (fun as w hw hf has => ?_)
  match as, has with
  | [v0, v1], ⟨h0, h1, _⟩ =>
    obtain ⟨o, rfl, _, hG0⟩ := ty_refn h0 rfl rfl
    replace hG0 : G o = 30 := hG0
    obtain ⟨lw, rfl, hl1, hh1⟩ := ty_int h1 rfl
    replace hl1 : ((-2147483648) : Int) ≤ lw.toInt := hl1
    replace hh1 : lw.toInt ≤ 2147483647 := hh1
    refine ⟨rfl, ?_⟩
    change ab_wp ro (ab_Ev ro ab_codes (d + 1)) 9 false (some .int) ab_k_X9_force (fun o_1 => ∃ v w1, o_1 = (v, w1, 0, 0) ∧ ty_w sp_ G w1 ∧ (F9 G F) w1 ∧ ty_same G fz w w1 ∧ ck_res G (some (0, (-2147483648), 2147483647)) v ∧ ck_wit 0 0 [.ref o, .int lw] v) (0, [some (.ref o), some (.int lw), none], [], w, 0, 0)
    refine ax_go 1 (y := (1, [some (.ref o), some (.int lw), none], [.int lw], w, 0, 0)) rfl trivial ?_
    refine hx_k (l := 2) (m := (-1)) rfl rfl (by decide) (fun z1 h2 => ?_)
    refine ax_go 1 (y := (3, [some (.ref o), some (.int lw), none], [.ref o, .int z1, .int lw], w, 0, 0)) rfl trivial ?_
    obtain ⟨fs3, g4, -, q5⟩ := hx_obj hw hG0 (s := 30) rfl (by decide)
    obtain ⟨p6, e7, hG8⟩ := hx_fr (k := 2) (s := 32) q5 rfl
    refine hx_gf (l := 6) rfl rfl rfl g4 e7 ?_
    refine hx_k (l := 8) (m := 112) rfl rfl (by decide) (fun z9 h10 => ?_)
    obtain ⟨f11, g12, r13⟩ := hx_row hw hG8 (s := 32) (kd := 0) (n := 5721) rfl (by decide)
    refine hx_il (l := 9) rfl rfl g12 (by omega) (by omega) (fun z14 h15 => ?_)
    have b16 := ((hf.1.1 _ _ hG8 g12).1 z9.toInt.toNat (by omega)).2.2.2.2.2.2.1 (by omega)
    rw [← h15] at b16
    rw [show z9.toInt.toNat = 112 by omega] at h15
    replace h15 := congrArg Int32.toInt h15
    refine hx_k (l := 10) (m := 1) rfl rfl (by decide) (fun z17 h18 => ?_)
    refine hx_sub (l := 11) rfl rfl (fun z19 h20 => ?_)
    replace h20 := h20 (by omega) (by omega)
    refine hx_pi (l := 14) (as := [.int lw, .int z1, .int z19]) rfl rfl rfl (hp_X9_lies (fz := fz) hFF (fun q hq => (by decide +kernel : ∀ q ∈ fb_X9_force, q ∈ fb_hp_X9_lies) q (hfz q hq)) (d + 0)) hw hf ⟨(ck_top_ok (G := G) lw), (ck_top_ok (G := G) z1), (ck_top_ok (G := G) z19), trivial⟩ trivial (fun w21 z26 hw22 hf23 m24 a27 b28 u29 => ?_)
    rw [u29.1]
    have u30 := u29.2 _ _ _ _ rfl rfl
    clear u29
    refine hx_if_ne (l := 17) rfl rfl (fun h31 => ?_) (fun h31 => ?_)
    · -- 24
      replace u30 := u30.1 (by omega)
      refine ax_go 1 (y := (25, [some (.ref o), some (.int lw), none], [.ref o], w, 0, 0)) rfl trivial ?_
      refine hx_gf (l := 28) rfl rfl rfl g4 e7 ?_
      refine hx_k (l := 30) (m := 113) rfl rfl (by decide) (fun z32 h33 => ?_)
      refine hx_il (l := 31) rfl rfl g12 (by omega) (by omega) (fun z34 h35 => ?_)
      refine ax_go 2 (y := (33, [some (.ref o), some (.int lw), some (.int z34)], [.ref o], w, 0, 0)) rfl trivial ?_
      refine hx_gf (l := 36) rfl rfl rfl g4 e7 ?_
      refine hx_k (l := 38) (m := 113) rfl rfl (by decide) (fun z36 h37 => ?_)
      refine ax_go 1 (y := (39, [some (.ref o), some (.int lw), some (.int z34)], [.int lw, .int z36, .ref p6], w, 0, 0)) rfl trivial ?_
      refine hx_is (s := 32) (l := 40) rfl rfl rfl hw hG8 g12 (by omega) (by omega) (hx_sg1 (fun _ _ _ => ⟨by omega, by omega⟩) (hx_sg1 (fun _ _ _ => ⟨by omega, by omega⟩) (hx_sg1 (fun _ _ _ => ⟨by omega, by omega⟩) (hx_sg1 (fun _ _ _ => ⟨by omega, by omega⟩) (hx_sg1 (fun _ _ _ => ⟨by omega, by omega⟩) (hx_sg1 (fun _ _ _ => ⟨by omega, by omega⟩) (hx_sg1 (fun _ _ _ => ⟨by omega, by omega⟩) (hx_sg1 (fun _ _ _ => ⟨by omega, by omega⟩) (hx_sg1 (fun _ _ _ => ⟨by omega, by omega⟩) hx_sg0))))))))) (fun w38 f39 g40 e41 o42 n43 hw44 n45 => ?_)
      have hs46 := ty_same_tr (ty_same_rf w) (n45 fz (hx_ok hfz (by decide)))
      have kp48 := hf.1.1 _ _ hG8 g12
      have i113 : z36.toInt.toNat = 113 := by omega
      have hf47 : F9 G F w38 := ⟨FM_k hf.1 hG8 g40 n43 (KP_113 kp48 (fun j hj => o42 j (by omega)) (by rw [← i113, e41]; omega) (by rw [← i113, e41]; omega)), hF _ _ (smt_k (n45 prM (by decide)) g12 g40 n43 (fun j hj => o42 j (by omega))) hf.2⟩
      refine ax_go 2 (y := (42, [some (.ref o), some (.int lw), some (.int z34)], [.int z34, .ref o], w38, 0, 0)) rfl trivial ?_
      refine hx_ci (l := 45) (as := [.ref o, .int z34]) rfl rfl (hx_iv (j := 125) (n := 1) (o := o) (r := []) rfl rfl ((n43 _ (hx_ne hG0 hG8 (by decide))).trans g4) rfl) (cc_X9_good_0 (fz := fz) hFF  (fun q hq => (by decide +kernel : ∀ q ∈ fb_X9_force, q ∈ fr_X9_good_0) q (hfz q hq)) (d + 0)) hw44 hf47 ⟨(hx_tr (G := G) (s := 30) (b := 0) hG0 (by decide)), (ck_top_ok (G := G) z34), trivial⟩ (fun w50 z55 hw51 hf52 m53 a56 b57 u58 => ?_)
      have hs54 := ty_same_tr hs46 m53
      exact ax_ret rfl rfl trivial ⟨some (.int z55), _, rfl, hw51, hf52, hs54, (ck_top_ok (G := G) z55), trivial⟩
    · -- 17
      clear u30
      refine ax_go 1 (y := (18, [some (.ref o), some (.int lw), none], [.ref o], w, 0, 0)) rfl trivial ?_
      refine hx_k (l := 20) (m := (-2)) rfl rfl (by decide) (fun z59 h60 => ?_)
      refine hx_ci (l := 23) (as := [.ref o, .int z59]) rfl rfl (hx_iv (j := 124) (n := 1) (o := o) (r := []) rfl rfl g4 rfl) (cc_X9_refuses_0 (fz := fz) hFF  (fun q hq => (by decide +kernel : ∀ q ∈ fb_X9_force, q ∈ fr_X9_refuses_0) q (hfz q hq)) (d + 0)) hw hf ⟨(hx_tr (G := G) (s := 30) (b := 0) hG0 (by decide)), (hx_ti (G := G) (lo := (-6)) (hi := (-1)) (by omega) (by omega)), trivial⟩ (fun w61 z66 hw62 hf63 m64 a67 b68 u69 => ?_)
      have hs65 := ty_same_tr (ty_same_rf w) m64
      exact ax_ret rfl rfl trivial ⟨some (.int z66), _, rfl, hw62, hf63, hs65, (ck_top_ok (G := G) z66), trivial⟩
def fb_X9_feed : List (Nat × Nat) := [(8, 3), (8, 5), (19, 999), (32, 999), (33, 999), (34, 999), (35, 999), (44, 999), (45, 999), (1, 0), (18, 999), (2, 11), (2, 14), (1, 15), (54, 11), (4, 2), (7, 9), (30, 34), (30, 2), (30, 22), (30, 23), (30, 24), (30, 25), (46, 999), (47, 999), (30, 35), (30, 36), (7, 0), (24, 999), (30, 4), (30, 5), (30, 6), (30, 8), (30, 9), (30, 10), (30, 11), (30, 14), (30, 15), (30, 16), (30, 17), (30, 18), (30, 19), (30, 20), (30, 21), (39, 999), (40, 999), (41, 999), (30, 30), (30, 42), (30, 43), (30, 44), (1, 1), (1, 3), (1, 10), (1, 13), (8, 0), (30, 49), (2, 15), (8, 1)]
set_option maxHeartbeats 8000000 in
theorem h_X9_feed {ro : ab_R} {G : Nat → Nat} {fz : List (Nat × Nat)} {F : ab_W → Prop} (hF : ∀ w w', smt G w w' → F w → F w') (hfz : ∀ q ∈ fz, q ∈ fb_X9_feed) (d : Nat) : ck_ct ro sp_ G (F9 G F) fz (ab_Ev ro ab_codes (d + 1)) 144 [(2, 30, 0), (0, (-2147483648), 2147483647), (0, (-2147483648), 2147483647), (0, (-2147483648), 2147483647), (0, (-2147483648), 2147483647), (0, (-2147483648), 2147483647)] (some (0, (-1), 400)) 0 0 := by
  have hFF := F9_same hF
  refine ck_hand (d := d + 0) (by decide) (fun as w hw hf has => ?_)
  match as, has with
  | [v0, v1, v2, v3, v4, v5], ⟨h0, h1, h2, h3, h4, h5, _⟩ =>
    obtain ⟨o, rfl, _, hG0⟩ := ty_refn h0 rfl rfl
    replace hG0 : G o = 30 := hG0
    obtain ⟨a, rfl, hl1, hh1⟩ := ty_int h1 rfl
    replace hl1 : ((-2147483648) : Int) ≤ a.toInt := hl1
    replace hh1 : a.toInt ≤ 2147483647 := hh1
    obtain ⟨b, rfl, hl2, hh2⟩ := ty_int h2 rfl
    replace hl2 : ((-2147483648) : Int) ≤ b.toInt := hl2
    replace hh2 : b.toInt ≤ 2147483647 := hh2
    obtain ⟨c, rfl, hl3, hh3⟩ := ty_int h3 rfl
    replace hl3 : ((-2147483648) : Int) ≤ c.toInt := hl3
    replace hh3 : c.toInt ≤ 2147483647 := hh3
    obtain ⟨e1, rfl, hl4, hh4⟩ := ty_int h4 rfl
    replace hl4 : ((-2147483648) : Int) ≤ e1.toInt := hl4
    replace hh4 : e1.toInt ≤ 2147483647 := hh4
    obtain ⟨e2, rfl, hl5, hh5⟩ := ty_int h5 rfl
    replace hl5 : ((-2147483648) : Int) ≤ e2.toInt := hl5
    replace hh5 : e2.toInt ≤ 2147483647 := hh5
    refine ⟨rfl, ?_⟩
    have ct55 : ∀ (nq : Nat) (w1 : ab_W) (k : Int32) (tp : Int32), ty_w sp_ G w1 → (F9 G F) w1 → ty_same G fz w w1 → (hx_has w1 o 9 13 (.int tp)) → (0 ≤ k.toInt) → (k.toInt ≤ 20) → (tp.toInt ≤ 380) → (21 - k.toInt).toNat < nq → ab_wp ro (ab_Ev ro ab_codes d) 9 false (some .int) ab_k_X9_feed (fun o_1 => ∃ v w1, o_1 = (v, w1, 0, 0) ∧ ty_w sp_ G w1 ∧ (F9 G F) w1 ∧ ty_same G fz w w1 ∧ ck_res G (some (0, (-1), 400)) v ∧ ck_wit 0 0 [.ref o, .int a, .int b, .int c, .int e1, .int e2] v) (55, [some (.ref o), some (.int a), some (.int b), some (.int c), some (.int e1), some (.int e2), some (.int k)], [], w1, 0, 0) := by
      intro nq
      induction nq with
      | zero => intro w1 k tp hw6 hf7 hs8 hh2 i3 i4 i5 hm; exact absurd hm (Nat.not_lt_zero _)
      | succ nq ih55 =>
        intro w1 k tp hw6 hf7 hs8 hh2 i3 i4 i5 hm55
        obtain ⟨fs9, g10, e11⟩ := hh2
        have q12 := hx_oq hw6 g10 hG0 (s := 30) rfl
        obtain ⟨x13, e14, a15, b16⟩ := hx_fi (k := 13) (lo := 0) (hi := 400) q12 rfl
        obtain rfl : tp = x13 := hx_inji e11 e14
        refine ax_go 1 (y := (57, [some (.ref o), some (.int a), some (.int b), some (.int c), some (.int e1), some (.int e2), some (.int k)], [.int k], w1, 0, 0)) rfl trivial ?_
        refine hx_k (l := 59) (m := 20) rfl rfl (by decide) (fun z17 h18 => ?_)
        refine hx_ic_ge (l := 62) rfl rfl (fun h19 => ?_) (fun h19 => ?_)
        · -- 101
          refine ax_go 2 (y := (103, [some (.ref o), some (.int a), some (.int b), some (.int c), some (.int e1), some (.int e2), some (.int k)], [.ref o, .ref o], w1, 0, 0)) rfl trivial ?_
          refine hx_gf (l := 106) rfl rfl rfl g10 e11 ?_
          refine hx_k (l := 108) (m := 20) rfl rfl (by decide) (fun z20 h21 => ?_)
          refine hx_add (l := 109) rfl rfl (fun z22 h23 => ?_)
          replace h23 := h23 (by omega) (by omega)
          refine hx_pf (q := (0, 0, 0, 0, 0, 400)) (s := 30) (l := 112) (v := .int z22) rfl rfl rfl (by decide) rfl rfl rfl hw6 hG0 g10 trivial (hx_ti (G := G) (lo := 0) (hi := 400) (by omega) (by omega)) (fun w24 fs25 g26 e27 o28 n29 hw30 n31 => ?_)
          have hs32 := ty_same_tr hs8 (n31 fz (hx_ok hfz (by decide)))
          have hf33 := hFF _ _ (n31 pr_ (by decide)) hf7
          refine ax_go 1 (y := (113, [some (.ref o), some (.int a), some (.int b), some (.int c), some (.int e1), some (.int e2), some (.int k)], [.ref o], w24, 0, 0)) rfl trivial ?_
          refine hx_gf (l := 116) rfl rfl rfl g26 e27 ?_
          exact ax_ret rfl rfl trivial ⟨some (.int z22), _, rfl, hw30, hf33, hs32, (hx_ti (G := G) (lo := (-1)) (hi := 400) (by omega) (by omega)), trivial⟩
        · -- 62
          refine ax_go 1 (y := (63, [some (.ref o), some (.int a), some (.int b), some (.int c), some (.int e1), some (.int e2), some (.int k)], [.ref o], w1, 0, 0)) rfl trivial ?_
          obtain ⟨p34, e35, hG36⟩ := hx_fr (k := 11) (s := 37) q12 rfl
          refine hx_gf (l := 66) rfl rfl rfl g10 e35 ?_
          refine ax_go 1 (y := (67, [some (.ref o), some (.int a), some (.int b), some (.int c), some (.int e1), some (.int e2), some (.int k)], [.ref o, .ref p34], w1, 0, 0)) rfl trivial ?_
          refine hx_gf (l := 70) rfl rfl rfl g10 e11 ?_
          refine ax_go 1 (y := (72, [some (.ref o), some (.int a), some (.int b), some (.int c), some (.int e1), some (.int e2), some (.int k)], [.int k, .int tp, .ref p34], w1, 0, 0)) rfl trivial ?_
          refine hx_add (l := 73) rfl rfl (fun z37 h38 => ?_)
          replace h38 := h38 (by omega) (by omega)
          refine ax_go 1 (y := (74, [some (.ref o), some (.int a), some (.int b), some (.int c), some (.int e1), some (.int e2), some (.int k)], [.ref o, .int z37, .ref p34], w1, 0, 0)) rfl trivial ?_
          obtain ⟨p39, e40, hG41⟩ := hx_fr (k := 12) (s := 38) q12 rfl
          refine hx_gf (l := 77) rfl rfl rfl g10 e40 ?_
          refine ax_go 1 (y := (79, [some (.ref o), some (.int a), some (.int b), some (.int c), some (.int e1), some (.int e2), some (.int k)], [.int k, .ref p39, .int z37, .ref p34], w1, 0, 0)) rfl trivial ?_
          refine hx_k (l := 80) (m := 4) rfl rfl (by decide) (fun z42 h43 => ?_)
          refine hx_div (l := 81) rfl rfl (by omega) (by omega) (fun z44 h45 => ?_)
          rw [h43] at h45
          obtain ⟨f46, g47, r48⟩ := hx_row hw6 hG41 (s := 38) (kd := 0) (n := 5) rfl (by decide)
          refine hx_il (l := 82) rfl rfl g47 (by omega) (by omega) (fun z49 h50 => ?_)
          refine hx_k (l := 84) (m := 24) rfl rfl (by decide) (fun z51 h52 => ?_)
          refine hx_k (l := 86) (m := 8) rfl rfl (by decide) (fun z53 h54 => ?_)
          refine ax_go 1 (y := (88, [some (.ref o), some (.int a), some (.int b), some (.int c), some (.int e1), some (.int e2), some (.int k)], [.int k, .int z53, .int z51, .int z49, .int z37, .ref p34], w1, 0, 0)) rfl trivial ?_
          refine hx_k (l := 89) (m := 4) rfl rfl (by decide) (fun z55 h56 => ?_)
          refine hx_rem (l := 90) rfl rfl (by omega) (by omega) (fun z57 a58 b59 c60 d61 => ?_)
          refine hx_mul (l := 91) rfl rfl (fun z62 h63 => ?_)
          rw [h54] at h63
          replace h63 := h63 (by omega) (by omega)
          refine hx_sub (l := 92) rfl rfl (fun z64 h65 => ?_)
          replace h65 := h65 (by omega) (by omega)
          refine hx_any (l := 93) rfl rfl (fun z66 => ?_)
          refine hx_any (l := 94) rfl rfl (fun z67 => ?_)
          obtain ⟨f68, g69, r70⟩ := hx_row hw6 hG36 (s := 37) (kd := 1) (n := 400) rfl (by decide)
          refine hx_bs (s := 37) (l := 95) rfl rfl (by decide) rfl hw6 hG36 g69 (by omega) (by omega) (fun w71 f72 g73 e74 o75 n76 hw77 n78 => ?_)
          have hs79 := ty_same_tr hs8 (n78 fz (hx_ok hfz (by decide)))
          have hf80 := hFF _ _ (n78 pr_ (by decide)) hf7
          refine hx_iinc (x := k) (n := 1) (l := 98) rfl rfl rfl (Nat.le_of_ble_eq_true rfl) (by omega) (by omega) (by decide) (fun z81 h82 => ?_)
          change ab_wp ro (ab_Ev ro ab_codes d) 9 false (some .int) ab_k_X9_feed (fun o_1 => ∃ v w1, o_1 = (v, w1, 0, 0) ∧ ty_w sp_ G w1 ∧ (F9 G F) w1 ∧ ty_same G fz w w1 ∧ ck_res G (some (0, (-1), 400)) v ∧ ck_wit 0 0 [.ref o, .int a, .int b, .int c, .int e1, .int e2] v) (98, [some (.ref o), some (.int a), some (.int b), some (.int c), some (.int e1), some (.int e2), some (.int z81)], [], w71, 0, 0)
          refine ax_go 1 (y := (55, [some (.ref o), some (.int a), some (.int b), some (.int c), some (.int e1), some (.int e2), some (.int z81)], [], w71, 0, 0)) rfl trivial ?_
          exact ih55 w71 z81 tp hw77 hf80 hs79 ⟨_, ((n76 _ (hx_ne hG0 hG36 (by decide))).trans g10), e11⟩ (by omega) (by omega) (by omega) (by omega)
    change ab_wp ro (ab_Ev ro ab_codes d) 9 false (some .int) ab_k_X9_feed (fun o_1 => ∃ v w1, o_1 = (v, w1, 0, 0) ∧ ty_w sp_ G w1 ∧ (F9 G F) w1 ∧ ty_same G fz w w1 ∧ ck_res G (some (0, (-1), 400)) v ∧ ck_wit 0 0 [.ref o, .int a, .int b, .int c, .int e1, .int e2] v) (0, [some (.ref o), some (.int a), some (.int b), some (.int c), some (.int e1), some (.int e2), none], [], w, 0, 0)
    refine ax_go 1 (y := (1, [some (.ref o), some (.int a), some (.int b), some (.int c), some (.int e1), some (.int e2), none], [.ref o], w, 0, 0)) rfl trivial ?_
    obtain ⟨fs83, g84, -, q85⟩ := hx_obj hw hG0 (s := 30) rfl (by decide)
    obtain ⟨x86, e87, a88, b89⟩ := hx_fi (k := 13) (lo := 0) (hi := 400) q85 rfl
    refine hx_gf (l := 4) rfl rfl rfl g84 e87 ?_
    refine hx_k (l := 6) (m := 20) rfl rfl (by decide) (fun z90 h91 => ?_)
    refine hx_add (l := 7) rfl rfl (fun z92 h93 => ?_)
    replace h93 := h93 (by omega) (by omega)
    refine hx_k (l := 10) (m := 400) rfl rfl (by decide) (fun z94 h95 => ?_)
    refine hx_ic_le (l := 13) rfl rfl (fun h96 => ?_) (fun h96 => ?_)
    · -- 15
      refine ax_go 1 (y := (16, [some (.ref o), some (.int a), some (.int b), some (.int c), some (.int e1), some (.int e2), none], [.ref o], w, 0, 0)) rfl trivial ?_
      obtain ⟨p97, e98, hG99⟩ := hx_fr (k := 12) (s := 38) q85 rfl
      refine hx_gf (l := 19) rfl rfl rfl g84 e98 ?_
      refine hx_k (l := 20) (m := 0) rfl rfl (by decide) (fun z100 h101 => ?_)
      refine ax_go 1 (y := (21, [some (.ref o), some (.int a), some (.int b), some (.int c), some (.int e1), some (.int e2), none], [.int a, .int z100, .ref p97], w, 0, 0)) rfl trivial ?_
      obtain ⟨f102, g103, r104⟩ := hx_row hw hG99 (s := 38) (kd := 0) (n := 5) rfl (by decide)
      refine hx_is (s := 38) (l := 22) rfl rfl rfl hw hG99 g103 (by omega) (by omega) hx_sg0 (fun w105 f106 g107 e108 o109 n110 hw111 n112 => ?_)
      have hs113 := ty_same_tr (ty_same_rf w) (n112 fz (hx_ok hfz (by decide)))
      have hf114 := hFF _ _ (n112 pr_ (by decide)) hf
      refine ax_go 1 (y := (23, [some (.ref o), some (.int a), some (.int b), some (.int c), some (.int e1), some (.int e2), none], [.ref o], w105, 0, 0)) rfl trivial ?_
      refine hx_gf (l := 26) rfl rfl rfl ((n110 _ (hx_ne hG0 hG99 (by decide))).trans g84) e98 ?_
      refine hx_k (l := 27) (m := 1) rfl rfl (by decide) (fun z115 h116 => ?_)
      refine ax_go 1 (y := (28, [some (.ref o), some (.int a), some (.int b), some (.int c), some (.int e1), some (.int e2), none], [.int b, .int z115, .ref p97], w105, 0, 0)) rfl trivial ?_
      refine hx_is (s := 38) (l := 29) rfl rfl rfl hw111 hG99 g107 (by omega) (by omega) hx_sg0 (fun w117 f118 g119 e120 o121 n122 hw123 n124 => ?_)
      have hs125 := ty_same_tr hs113 (n124 fz (hx_ok hfz (by decide)))
      have hf126 := hFF _ _ (n124 pr_ (by decide)) hf114
      refine ax_go 1 (y := (30, [some (.ref o), some (.int a), some (.int b), some (.int c), some (.int e1), some (.int e2), none], [.ref o], w117, 0, 0)) rfl trivial ?_
      refine hx_gf (l := 33) rfl rfl rfl ((n122 _ (hx_ne hG0 hG99 (by decide))).trans ((n110 _ (hx_ne hG0 hG99 (by decide))).trans g84)) e98 ?_
      refine hx_k (l := 34) (m := 2) rfl rfl (by decide) (fun z127 h128 => ?_)
      refine ax_go 1 (y := (35, [some (.ref o), some (.int a), some (.int b), some (.int c), some (.int e1), some (.int e2), none], [.int c, .int z127, .ref p97], w117, 0, 0)) rfl trivial ?_
      refine hx_is (s := 38) (l := 36) rfl rfl rfl hw123 hG99 g119 (by omega) (by omega) hx_sg0 (fun w129 f130 g131 e132 o133 n134 hw135 n136 => ?_)
      have hs137 := ty_same_tr hs125 (n136 fz (hx_ok hfz (by decide)))
      have hf138 := hFF _ _ (n136 pr_ (by decide)) hf126
      refine ax_go 1 (y := (37, [some (.ref o), some (.int a), some (.int b), some (.int c), some (.int e1), some (.int e2), none], [.ref o], w129, 0, 0)) rfl trivial ?_
      refine hx_gf (l := 40) rfl rfl rfl ((n134 _ (hx_ne hG0 hG99 (by decide))).trans ((n122 _ (hx_ne hG0 hG99 (by decide))).trans ((n110 _ (hx_ne hG0 hG99 (by decide))).trans g84))) e98 ?_
      refine hx_k (l := 41) (m := 3) rfl rfl (by decide) (fun z139 h140 => ?_)
      refine ax_go 1 (y := (43, [some (.ref o), some (.int a), some (.int b), some (.int c), some (.int e1), some (.int e2), none], [.int e1, .int z139, .ref p97], w129, 0, 0)) rfl trivial ?_
      refine hx_is (s := 38) (l := 44) rfl rfl rfl hw135 hG99 g131 (by omega) (by omega) hx_sg0 (fun w141 f142 g143 e144 o145 n146 hw147 n148 => ?_)
      have hs149 := ty_same_tr hs137 (n148 fz (hx_ok hfz (by decide)))
      have hf150 := hFF _ _ (n148 pr_ (by decide)) hf138
      refine ax_go 1 (y := (45, [some (.ref o), some (.int a), some (.int b), some (.int c), some (.int e1), some (.int e2), none], [.ref o], w141, 0, 0)) rfl trivial ?_
      refine hx_gf (l := 48) rfl rfl rfl ((n146 _ (hx_ne hG0 hG99 (by decide))).trans ((n134 _ (hx_ne hG0 hG99 (by decide))).trans ((n122 _ (hx_ne hG0 hG99 (by decide))).trans ((n110 _ (hx_ne hG0 hG99 (by decide))).trans g84)))) e98 ?_
      refine hx_k (l := 49) (m := 4) rfl rfl (by decide) (fun z151 h152 => ?_)
      refine ax_go 1 (y := (51, [some (.ref o), some (.int a), some (.int b), some (.int c), some (.int e1), some (.int e2), none], [.int e2, .int z151, .ref p97], w141, 0, 0)) rfl trivial ?_
      refine hx_is (s := 38) (l := 52) rfl rfl rfl hw147 hG99 g143 (by omega) (by omega) hx_sg0 (fun w153 f154 g155 e156 o157 n158 hw159 n160 => ?_)
      have hs161 := ty_same_tr hs149 (n160 fz (hx_ok hfz (by decide)))
      have hf162 := hFF _ _ (n160 pr_ (by decide)) hf150
      refine hx_k (l := 53) (m := 0) rfl rfl (by decide) (fun z163 h164 => ?_)
      refine ax_go 1 (y := (55, [some (.ref o), some (.int a), some (.int b), some (.int c), some (.int e1), some (.int e2), some (.int z163)], [], w153, 0, 0)) rfl trivial ?_
      exact ct55 _ w153 z163 x86 hw159 hf162 hs161 ⟨_, ((n158 _ (hx_ne hG0 hG99 (by decide))).trans ((n146 _ (hx_ne hG0 hG99 (by decide))).trans ((n134 _ (hx_ne hG0 hG99 (by decide))).trans ((n122 _ (hx_ne hG0 hG99 (by decide))).trans ((n110 _ (hx_ne hG0 hG99 (by decide))).trans g84))))), e87⟩ (by omega) (by omega) (by omega) (Nat.lt_succ_self _)
    · -- 13
      refine hx_k (l := 14) (m := (-1)) rfl rfl (by decide) (fun z165 h166 => ?_)
      exact ax_ret rfl rfl trivial ⟨some (.int z165), _, rfl, hw, hf, (ty_same_rf w), (hx_ti (G := G) (lo := (-1)) (hi := 400) (by omega) (by omega)), trivial⟩
