/-! walks by program -/
def fb_X4_slotAt : List (Nat × Nat) := [(8, 3), (8, 5), (19, 999), (32, 999), (33, 999), (34, 999), (35, 999), (44, 999), (45, 999), (1, 0), (18, 999), (2, 11), (2, 14), (1, 15), (54, 11), (4, 2), (7, 9), (30, 13), (30, 34), (30, 2), (30, 22), (30, 23), (30, 24), (30, 25), (46, 999), (47, 999), (30, 35), (30, 36), (7, 0), (24, 999), (37, 999), (30, 4), (30, 5), (30, 6), (30, 8), (30, 9), (30, 10), (30, 11), (30, 14), (30, 15), (30, 16), (30, 17), (30, 18), (30, 19), (30, 20), (30, 21), (39, 999), (40, 999), (41, 999), (30, 30), (30, 42), (30, 43), (30, 44), (1, 1), (1, 3), (1, 10), (1, 13), (8, 0), (30, 49), (2, 15), (8, 1)]
set_option maxHeartbeats 8000000 in
theorem h_X4_slotAt {ro : ab_R} {G : Nat → Nat} {fz : List (Nat × Nat)} {F : ab_W → Prop} (hF : ∀ w w', ty_same G pr_ w w' → F w → F w') (hfz : ∀ q ∈ fz, q ∈ fb_X4_slotAt) (d : Nat) : hx_ct ro sp_ G F fz (ab_Ev ro ab_codes (d + 1)) 41 [(2, 3, 0), (0, 0, 16)] (some (0, 0, 1152)) (fun _ _ => True) (fun _ w v w1 => w1 = w ∧ ∃ (s : Nat) (z : Int32), s < 17 ∧ v = some (.int z) ∧ z.toInt = 72 * (s : Int)) := by
  refine hx_hand (d := d + 0) (by decide) (fun as w hw hf has hP => ?_)
  match as, has with
  | [v0, v1], ⟨h0, h1, _⟩ =>
    obtain ⟨o, rfl, _, hG0⟩ := ty_refn h0 rfl rfl
    replace hG0 : G o = 3 := hG0
    obtain ⟨nth, rfl, hl1, hh1⟩ := ty_int h1 rfl
    replace hl1 : (0 : Int) ≤ nth.toInt := hl1
    replace hh1 : nth.toInt ≤ 16 := hh1
    refine ⟨rfl, ?_⟩
    change ab_wp ro (ab_Ev ro ab_codes d) 4 false (some .int) ab_k_X4_slotAt (fun o_1 => ∃ v w1, o_1 = (v, w1, 0, 0) ∧ ty_w sp_ G w1 ∧ F w1 ∧ ty_same G fz w w1 ∧ ck_res G (some (0, 0, 1152)) v ∧ (fun _ w v w1 => w1 = w ∧ ∃ (s : Nat) (z : Int32), s < 17 ∧ v = some (.int z) ∧ z.toInt = 72 * (s : Int)) ([.ref o, .int nth] : List Value) w v w1) (0, [some (.ref o), some (.int nth)], [], w, 0, 0)
    refine ax_go 1 (y := (1, [some (.ref o), some (.int nth)], [.ref o], w, 0, 0)) rfl trivial ?_
    obtain ⟨fs1, g2, -, q3⟩ := hx_obj hw hG0 (s := 3) rfl (by decide)
    obtain ⟨x4, e5, a6, b7⟩ := hx_fi (k := 1) (lo := 0) (hi := 16) q3 rfl
    refine hx_gf (l := 4) rfl rfl rfl g2 e5 ?_
    refine ax_go 1 (y := (5, [some (.ref o), some (.int nth)], [.int nth, .int x4], w, 0, 0)) rfl trivial ?_
    refine hx_add (l := 6) rfl rfl (fun z8 h9 => ?_)
    replace h9 := h9 (by omega) (by omega)
    refine hx_k (l := 8) (m := 17) rfl rfl (by decide) (fun z10 h11 => ?_)
    refine hx_rem (l := 9) rfl rfl (by omega) (by omega) (fun z12 a13 b14 c15 d16 => ?_)
    refine hx_k (l := 11) (m := 72) rfl rfl (by decide) (fun z17 h18 => ?_)
    refine hx_mul (l := 12) rfl rfl (fun z19 h20 => ?_)
    rw [h18] at h20
    replace h20 := h20 (by omega) (by omega)
    exact ax_ret rfl rfl trivial ⟨some (.int z19), _, rfl, hw, hf, (ty_same_rf w), (hx_ti (G := G) (lo := 0) (hi := 1152) (by omega) (by omega)), ⟨rfl, (z19.toInt / 72).toNat, z19, by omega, rfl, by omega⟩⟩
def fb_X4_note : List (Nat × Nat) := [(8, 3), (8, 5), (32, 999), (33, 999), (34, 999), (35, 999), (44, 999), (45, 999), (1, 0), (18, 999), (2, 11), (2, 14), (1, 15), (54, 11), (4, 2), (7, 9), (30, 13), (30, 34), (30, 2), (30, 22), (30, 23), (30, 24), (30, 25), (46, 999), (47, 999), (30, 35), (30, 36), (7, 0), (24, 999), (37, 999), (30, 4), (30, 5), (30, 6), (30, 8), (30, 9), (30, 10), (30, 11), (30, 14), (30, 15), (30, 16), (30, 17), (30, 18), (30, 19), (30, 20), (30, 21), (39, 999), (40, 999), (41, 999), (30, 30), (30, 42), (30, 43), (30, 44), (1, 1), (1, 3), (1, 10), (1, 13), (8, 0), (30, 49), (2, 15), (8, 1)]
set_option maxHeartbeats 8000000 in
theorem h_X4_note {ro : ab_R} {G : Nat → Nat} {fz : List (Nat × Nat)} {F : ab_W → Prop} (hF : ∀ w w', ty_same G pr4 w w' → F w → F w') (hfz : ∀ q ∈ fz, q ∈ fb_X4_note) (d : Nat) : ck_ct ro sp_ G (F4 G F) fz (ab_Ev ro ab_codes (d + 2)) 38 [(2, 3, 0), (0, (-2147483648), 2147483647), (2, 2, 0)] none 0 0 := by
  have hFF := F4_same hF
  refine ck_hand (d := d + 1) (by decide) (fun as w hw hf has => ?_)
  match as, has with
  | [v0, v1, v2], ⟨h0, h1, h2, _⟩ =>
    obtain ⟨o, rfl, _, hG0⟩ := ty_refn h0 rfl rfl
    replace hG0 : G o = 3 := hG0
    obtain ⟨kd, rfl, hl1, hh1⟩ := ty_int h1 rfl
    replace hl1 : ((-2147483648) : Int) ≤ kd.toInt := hl1
    replace hh1 : kd.toInt ≤ 2147483647 := hh1
    obtain ⟨la, rfl, _, hG2⟩ := ty_refn h2 rfl rfl
    replace hG2 : G la = 2 := hG2
    refine ⟨rfl, ?_⟩
    change ab_wp ro (ab_Ev ro ab_codes (d + 1)) 4 false none ab_k_X4_note (fun o_1 => ∃ v w1, o_1 = (v, w1, 0, 0) ∧ ty_w sp_ G w1 ∧ (F4 G F) w1 ∧ ty_same G fz w w1 ∧ ck_res G none v ∧ ck_wit 0 0 [.ref o, .int kd, .ref la] v) (0, [some (.ref o), some (.int kd), some (.ref la), none], [], w, 0, 0)
    refine ax_go 2 (y := (2, [some (.ref o), some (.int kd), some (.ref la), none], [.ref o, .ref o], w, 0, 0)) rfl trivial ?_
    obtain ⟨fs1, g2, -, q3⟩ := hx_obj hw hG0 (s := 3) rfl (by decide)
    obtain ⟨x4, e5, a6, b7⟩ := hx_fi (k := 2) (lo := 0) (hi := 16) q3 rfl
    refine hx_gf (l := 5) rfl rfl rfl g2 e5 ?_
    refine hx_pi (l := 8) (as := [.ref o, .int x4]) rfl rfl (hx_iv (j := 41) (n := 1) (o := o) (r := []) rfl rfl g2 rfl) (h_X4_slotAt (fz := fz) hFF (fun q hq => (by decide +kernel : ∀ q ∈ fb_X4_note, q ∈ fb_X4_slotAt) q (hfz q hq)) (d + 0)) hw hf ⟨(hx_tr (G := G) (s := 3) (b := 0) hG0 (by decide)), (hx_ti (G := G) (lo := 0) (hi := 16) (by omega) (by omega)), trivial⟩ trivial (fun w8 z13 hw9 hf10 m11 a14 b15 u16 => ?_)
    rw [u16.1]
    obtain ⟨sl, zz, hsl, hz1, hz2⟩ := u16.2
    obtain rfl : z13 = zz := by cases hz1; rfl
    refine ax_go 2 (y := (10, [some (.ref o), some (.int kd), some (.ref la), some (.int z13)], [.ref la], w, 0, 0)) rfl trivial ?_
    obtain ⟨fs17, g18, -, q19⟩ := hx_obj hw hG2 (s := 2) rfl (by decide)
    obtain ⟨p20, e21, hG22⟩ := hx_fr (k := 2) (s := 11) q19 rfl
    refine hx_gf (l := 13) rfl rfl rfl g18 e21 ?_
    refine hx_k (l := 14) (m := 0) rfl rfl (by decide) (fun z23 h24 => ?_)
    refine ax_go 1 (y := (15, [some (.ref o), some (.int kd), some (.ref la), some (.int z13)], [.ref o, .int z23, .ref p20], w, 0, 0)) rfl trivial ?_
    obtain ⟨p25, e26, hG27⟩ := hx_fr (k := 0) (s := 19) q3 rfl
    refine hx_gf (l := 18) rfl rfl rfl g2 e26 ?_
    refine ax_go 1 (y := (19, [some (.ref o), some (.int kd), some (.ref la), some (.int z13)], [.int z13, .ref p25, .int z23, .ref p20], w, 0, 0)) rfl trivial ?_
    refine hx_k (l := 21) (m := 10) rfl rfl (by decide) (fun z28 h29 => ?_)
    obtain ⟨f30, g31, r32⟩ := hx_row hw hG22 (s := 11) (kd := 0) (n := 10) rfl (by decide)
    obtain ⟨f33, g34, r35⟩ := hx_row hw hG27 (s := 19) (kd := 0) (n := 1224) rfl (by decide)
    refine hx_cpy (s := 19) (l := 24) rfl rfl (by decide) rfl rfl hw hG27 g31 g34 (by omega) (by omega) (by omega) (by omega) (by omega) (fun q hq => by cases hq) (fun w36 f37 g38 e39 n40 hw41 n42 => ?_)
    have hs43 := ty_same_tr (ty_same_rf w) (n42 fz (hx_ok hfz (by decide)))
    have hf44 : F4 G F w36 := by
      refine ⟨FP_put hf.1 g38 n40 (fun s hs => ?_), hF _ _ (n42 pr4 (by decide)) hf.2⟩
      have old := hf.1 _ _ hG27 g34 s hs
      rw [e39]
      refine ⟨fun i h1 h2 => ?_, ?_⟩
      · unfold va_cpy
        split
        · omega
        · exact old.1 i h1 h2
      · unfold va_cpy
        split
        · omega
        · exact old.2
    refine hx_iinc (x := z13) (n := 10) (l := 27) rfl rfl rfl (Nat.le_of_ble_eq_true rfl) (by omega) (by omega) (by decide) (fun z46 h47 => ?_)
    change ab_wp ro (ab_Ev ro ab_codes (d + 1)) 4 false none ab_k_X4_note (fun o_1 => ∃ v w1, o_1 = (v, w1, 0, 0) ∧ ty_w sp_ G w1 ∧ (F4 G F) w1 ∧ ty_same G fz w w1 ∧ ck_res G none v ∧ ck_wit 0 0 [.ref o, .int kd, .ref la] v) (27, [some (.ref o), some (.int kd), some (.ref la), some (.int z46)], [], w36, 0, 0)
    refine ax_go 1 (y := (28, [some (.ref o), some (.int kd), some (.ref la), some (.int z46)], [.ref la], w36, 0, 0)) rfl trivial ?_
    obtain ⟨p48, e49, hG50⟩ := hx_fr (k := 3) (s := 11) q19 rfl
    refine hx_gf (l := 31) rfl rfl rfl ((n40 _ (hx_ne hG2 hG27 (by decide))).trans g18) e49 ?_
    refine hx_k (l := 32) (m := 0) rfl rfl (by decide) (fun z51 h52 => ?_)
    refine ax_go 1 (y := (33, [some (.ref o), some (.int kd), some (.ref la), some (.int z46)], [.ref o, .int z51, .ref p48], w36, 0, 0)) rfl trivial ?_
    refine hx_gf (l := 36) rfl rfl rfl ((n40 _ (hx_ne hG0 hG27 (by decide))).trans g2) e26 ?_
    refine ax_go 1 (y := (37, [some (.ref o), some (.int kd), some (.ref la), some (.int z46)], [.int z46, .ref p25, .int z51, .ref p48], w36, 0, 0)) rfl trivial ?_
    refine hx_k (l := 39) (m := 10) rfl rfl (by decide) (fun z53 h54 => ?_)
    obtain ⟨f55, g56, r57⟩ := hx_row hw41 hG50 (s := 11) (kd := 0) (n := 10) rfl (by decide)
    refine hx_cpy (s := 19) (l := 42) rfl rfl (by decide) rfl rfl hw41 hG27 g56 g38 (by omega) (by omega) (by omega) (by omega) (by omega) (fun q hq => by cases hq) (fun w58 f59 g60 e61 n62 hw63 n64 => ?_)
    have hs65 := ty_same_tr hs43 (n64 fz (hx_ok hfz (by decide)))
    have hf66 : F4 G F w58 := by
      refine ⟨FP_put hf44.1 g60 n62 (fun s hs => ?_), hF _ _ (n64 pr4 (by decide)) hf44.2⟩
      have old := hf44.1 _ _ hG27 g38 s hs
      rw [e61]
      refine ⟨fun i h1 h2 => ?_, ?_⟩
      · unfold va_cpy
        split
        · omega
        · exact old.1 i h1 h2
      · unfold va_cpy
        split
        · omega
        · exact old.2
    refine hx_iinc (x := z46) (n := 10) (l := 45) rfl rfl rfl (Nat.le_of_ble_eq_true rfl) (by omega) (by omega) (by decide) (fun z68 h69 => ?_)
    change ab_wp ro (ab_Ev ro ab_codes (d + 1)) 4 false none ab_k_X4_note (fun o_1 => ∃ v w1, o_1 = (v, w1, 0, 0) ∧ ty_w sp_ G w1 ∧ (F4 G F) w1 ∧ ty_same G fz w w1 ∧ ck_res G none v ∧ ck_wit 0 0 [.ref o, .int kd, .ref la] v) (45, [some (.ref o), some (.int kd), some (.ref la), some (.int z68)], [], w58, 0, 0)
    refine ax_go 1 (y := (46, [some (.ref o), some (.int kd), some (.ref la), some (.int z68)], [.ref la], w58, 0, 0)) rfl trivial ?_
    obtain ⟨p70, e71, hG72⟩ := hx_fr (k := 4) (s := 15) q19 rfl
    refine hx_gf (l := 49) rfl rfl rfl ((n62 _ (hx_ne hG2 hG27 (by decide))).trans ((n40 _ (hx_ne hG2 hG27 (by decide))).trans g18)) e71 ?_
    refine hx_k (l := 50) (m := 0) rfl rfl (by decide) (fun z73 h74 => ?_)
    refine ax_go 1 (y := (51, [some (.ref o), some (.int kd), some (.ref la), some (.int z68)], [.ref o, .int z73, .ref p70], w58, 0, 0)) rfl trivial ?_
    refine hx_gf (l := 54) rfl rfl rfl ((n62 _ (hx_ne hG0 hG27 (by decide))).trans ((n40 _ (hx_ne hG0 hG27 (by decide))).trans g2)) e26 ?_
    refine ax_go 1 (y := (55, [some (.ref o), some (.int kd), some (.ref la), some (.int z68)], [.int z68, .ref p25, .int z73, .ref p70], w58, 0, 0)) rfl trivial ?_
    refine hx_k (l := 57) (m := 16) rfl rfl (by decide) (fun z75 h76 => ?_)
    obtain ⟨f77, g78, r79⟩ := hx_row hw63 hG72 (s := 15) (kd := 0) (n := 16) rfl (by decide)
    refine hx_cpy (s := 19) (l := 60) rfl rfl (by decide) rfl rfl hw63 hG27 g78 g60 (by omega) (by omega) (by omega) (by omega) (by omega) (fun q hq => by cases hq) (fun w80 f81 g82 e83 n84 hw85 n86 => ?_)
    have hs87 := ty_same_tr hs65 (n86 fz (hx_ok hfz (by decide)))
    have hf88 : F4 G F w80 := by
      refine ⟨FP_put hf66.1 g82 n84 (fun s hs => ?_), hF _ _ (n86 pr4 (by decide)) hf66.2⟩
      have old := hf66.1 _ _ hG27 g60 s hs
      rw [e83]
      refine ⟨fun i h1 h2 => ?_, ?_⟩
      · unfold va_cpy
        split
        · exact r79 (0, 16, 1, 0, 0, 9) (by decide) _ (Nat.zero_le _) (show _ < 16 by omega) (Nat.mod_one _)
        · exact old.1 i h1 h2
      · unfold va_cpy
        split
        · omega
        · exact old.2
    refine hx_iinc (x := z68) (n := 16) (l := 63) rfl rfl rfl (Nat.le_of_ble_eq_true rfl) (by omega) (by omega) (by decide) (fun z90 h91 => ?_)
    change ab_wp ro (ab_Ev ro ab_codes (d + 1)) 4 false none ab_k_X4_note (fun o_1 => ∃ v w1, o_1 = (v, w1, 0, 0) ∧ ty_w sp_ G w1 ∧ (F4 G F) w1 ∧ ty_same G fz w w1 ∧ ck_res G none v ∧ ck_wit 0 0 [.ref o, .int kd, .ref la] v) (63, [some (.ref o), some (.int kd), some (.ref la), some (.int z90)], [], w80, 0, 0)
    refine ax_go 1 (y := (64, [some (.ref o), some (.int kd), some (.ref la), some (.int z90)], [.ref la], w80, 0, 0)) rfl trivial ?_
    obtain ⟨p92, e93, hG94⟩ := hx_fr (k := 5) (s := 12) q19 rfl
    refine hx_gf (l := 67) rfl rfl rfl ((n84 _ (hx_ne hG2 hG27 (by decide))).trans ((n62 _ (hx_ne hG2 hG27 (by decide))).trans ((n40 _ (hx_ne hG2 hG27 (by decide))).trans g18))) e93 ?_
    refine hx_k (l := 68) (m := 0) rfl rfl (by decide) (fun z95 h96 => ?_)
    refine ax_go 1 (y := (69, [some (.ref o), some (.int kd), some (.ref la), some (.int z90)], [.ref o, .int z95, .ref p92], w80, 0, 0)) rfl trivial ?_
    refine hx_gf (l := 72) rfl rfl rfl ((n84 _ (hx_ne hG0 hG27 (by decide))).trans ((n62 _ (hx_ne hG0 hG27 (by decide))).trans ((n40 _ (hx_ne hG0 hG27 (by decide))).trans g2))) e26 ?_
    refine ax_go 1 (y := (73, [some (.ref o), some (.int kd), some (.ref la), some (.int z90)], [.int z90, .ref p25, .int z95, .ref p92], w80, 0, 0)) rfl trivial ?_
    refine hx_k (l := 75) (m := 16) rfl rfl (by decide) (fun z97 h98 => ?_)
    obtain ⟨f99, g100, r101⟩ := hx_row hw85 hG94 (s := 12) (kd := 0) (n := 16) rfl (by decide)
    refine hx_cpy (s := 19) (l := 78) rfl rfl (by decide) rfl rfl hw85 hG27 g100 g82 (by omega) (by omega) (by omega) (by omega) (by omega) (fun q hq => by cases hq) (fun w102 f103 g104 e105 n106 hw107 n108 => ?_)
    have hs109 := ty_same_tr hs87 (n108 fz (hx_ok hfz (by decide)))
    have hf110 : F4 G F w102 := by
      refine ⟨FP_put hf88.1 g104 n106 (fun s hs => ?_), hF _ _ (n108 pr4 (by decide)) hf88.2⟩
      have old := hf88.1 _ _ hG27 g82 s hs
      rw [e105]
      refine ⟨fun i h1 h2 => ?_, ?_⟩
      · unfold va_cpy
        split
        · omega
        · exact old.1 i h1 h2
      · unfold va_cpy
        split
        · omega
        · exact old.2
    refine hx_iinc (x := z90) (n := 16) (l := 81) rfl rfl rfl (Nat.le_of_ble_eq_true rfl) (by omega) (by omega) (by decide) (fun z112 h113 => ?_)
    change ab_wp ro (ab_Ev ro ab_codes (d + 1)) 4 false none ab_k_X4_note (fun o_1 => ∃ v w1, o_1 = (v, w1, 0, 0) ∧ ty_w sp_ G w1 ∧ (F4 G F) w1 ∧ ty_same G fz w w1 ∧ ck_res G none v ∧ ck_wit 0 0 [.ref o, .int kd, .ref la] v) (81, [some (.ref o), some (.int kd), some (.ref la), some (.int z112)], [], w102, 0, 0)
    refine ax_go 1 (y := (82, [some (.ref o), some (.int kd), some (.ref la), some (.int z112)], [.ref la], w102, 0, 0)) rfl trivial ?_
    obtain ⟨p114, e115, hG116⟩ := hx_fr (k := 6) (s := 12) q19 rfl
    refine hx_gf (l := 85) rfl rfl rfl ((n106 _ (hx_ne hG2 hG27 (by decide))).trans ((n84 _ (hx_ne hG2 hG27 (by decide))).trans ((n62 _ (hx_ne hG2 hG27 (by decide))).trans ((n40 _ (hx_ne hG2 hG27 (by decide))).trans g18)))) e115 ?_
    refine hx_k (l := 86) (m := 0) rfl rfl (by decide) (fun z117 h118 => ?_)
    refine ax_go 1 (y := (87, [some (.ref o), some (.int kd), some (.ref la), some (.int z112)], [.ref o, .int z117, .ref p114], w102, 0, 0)) rfl trivial ?_
    refine hx_gf (l := 90) rfl rfl rfl ((n106 _ (hx_ne hG0 hG27 (by decide))).trans ((n84 _ (hx_ne hG0 hG27 (by decide))).trans ((n62 _ (hx_ne hG0 hG27 (by decide))).trans ((n40 _ (hx_ne hG0 hG27 (by decide))).trans g2)))) e26 ?_
    refine ax_go 1 (y := (91, [some (.ref o), some (.int kd), some (.ref la), some (.int z112)], [.int z112, .ref p25, .int z117, .ref p114], w102, 0, 0)) rfl trivial ?_
    refine hx_k (l := 93) (m := 16) rfl rfl (by decide) (fun z119 h120 => ?_)
    obtain ⟨f121, g122, r123⟩ := hx_row hw107 hG116 (s := 12) (kd := 0) (n := 16) rfl (by decide)
    refine hx_cpy (s := 19) (l := 96) rfl rfl (by decide) rfl rfl hw107 hG27 g122 g104 (by omega) (by omega) (by omega) (by omega) (by omega) (fun q hq => by cases hq) (fun w124 f125 g126 e127 n128 hw129 n130 => ?_)
    have hs131 := ty_same_tr hs109 (n130 fz (hx_ok hfz (by decide)))
    have hf132 : F4 G F w124 := by
      refine ⟨FP_put hf110.1 g126 n128 (fun s hs => ?_), hF _ _ (n130 pr4 (by decide)) hf110.2⟩
      have old := hf110.1 _ _ hG27 g104 s hs
      rw [e127]
      refine ⟨fun i h1 h2 => ?_, ?_⟩
      · unfold va_cpy
        split
        · omega
        · exact old.1 i h1 h2
      · unfold va_cpy
        split
        · omega
        · exact old.2
    refine hx_iinc (x := z112) (n := 16) (l := 99) rfl rfl rfl (Nat.le_of_ble_eq_true rfl) (by omega) (by omega) (by decide) (fun z134 h135 => ?_)
    change ab_wp ro (ab_Ev ro ab_codes (d + 1)) 4 false none ab_k_X4_note (fun o_1 => ∃ v w1, o_1 = (v, w1, 0, 0) ∧ ty_w sp_ G w1 ∧ (F4 G F) w1 ∧ ty_same G fz w w1 ∧ ck_res G none v ∧ ck_wit 0 0 [.ref o, .int kd, .ref la] v) (99, [some (.ref o), some (.int kd), some (.ref la), some (.int z134)], [], w124, 0, 0)
    refine ax_go 1 (y := (100, [some (.ref o), some (.int kd), some (.ref la), some (.int z134)], [.ref o], w124, 0, 0)) rfl trivial ?_
    refine hx_gf (l := 103) rfl rfl rfl ((n128 _ (hx_ne hG0 hG27 (by decide))).trans ((n106 _ (hx_ne hG0 hG27 (by decide))).trans ((n84 _ (hx_ne hG0 hG27 (by decide))).trans ((n62 _ (hx_ne hG0 hG27 (by decide))).trans ((n40 _ (hx_ne hG0 hG27 (by decide))).trans g2))))) e26 ?_
    refine ax_go 2 (y := (105, [some (.ref o), some (.int kd), some (.ref la), some (.int z134)], [.ref la, .int z134, .ref p25], w124, 0, 0)) rfl trivial ?_
    obtain ⟨x136, e137, a138, b139⟩ := hx_fi (k := 12) (lo := 0) (hi := 16) q19 rfl
    refine hx_gf (l := 108) rfl rfl rfl ((n128 _ (hx_ne hG2 hG27 (by decide))).trans ((n106 _ (hx_ne hG2 hG27 (by decide))).trans ((n84 _ (hx_ne hG2 hG27 (by decide))).trans ((n62 _ (hx_ne hG2 hG27 (by decide))).trans ((n40 _ (hx_ne hG2 hG27 (by decide))).trans g18))))) e137 ?_
    refine hx_is (s := 19) (l := 109) rfl rfl rfl hw129 hG27 g126 (by omega) (by omega) hx_sg0 (fun w140 f141 g142 e143 o144 n145 hw146 n147 => ?_)
    have hs148 := ty_same_tr hs131 (n147 fz (hx_ok hfz (by decide)))
    have hf149 : F4 G F w140 := by
      refine ⟨FP_put hf132.1 g142 n145 (fun s hs => ?_), hF _ _ (n147 pr4 (by decide)) hf132.2⟩
      have old := hf132.1 _ _ hG27 g126 s hs
      refine ⟨fun i h1 h2 => ?_, ?_⟩
      · by_cases e : 72 * s + i = z134.toInt.toNat
        · rw [e, e143]
          omega
        · rw [o144 _ e]
          exact old.1 i h1 h2
      · by_cases e : 72 * s + 68 = z134.toInt.toNat
        · rw [e, e143]
          omega
        · rw [o144 _ e]
          exact old.2
    refine ax_go 1 (y := (110, [some (.ref o), some (.int kd), some (.ref la), some (.int z134)], [.ref o], w140, 0, 0)) rfl trivial ?_
    refine hx_gf (l := 113) rfl rfl rfl ((n145 _ (hx_ne hG0 hG27 (by decide))).trans ((n128 _ (hx_ne hG0 hG27 (by decide))).trans ((n106 _ (hx_ne hG0 hG27 (by decide))).trans ((n84 _ (hx_ne hG0 hG27 (by decide))).trans ((n62 _ (hx_ne hG0 hG27 (by decide))).trans ((n40 _ (hx_ne hG0 hG27 (by decide))).trans g2)))))) e26 ?_
    refine ax_go 1 (y := (114, [some (.ref o), some (.int kd), some (.ref la), some (.int z134)], [.int z134, .ref p25], w140, 0, 0)) rfl trivial ?_
    refine hx_k (l := 115) (m := 1) rfl rfl (by decide) (fun z151 h152 => ?_)
    refine hx_add (l := 116) rfl rfl (fun z153 h154 => ?_)
    replace h154 := h154 (by omega) (by omega)
    refine ax_go 1 (y := (117, [some (.ref o), some (.int kd), some (.ref la), some (.int z134)], [.ref la, .int z153, .ref p25], w140, 0, 0)) rfl trivial ?_
    obtain ⟨x155, e156, a157, b158⟩ := hx_fi (k := 13) (lo := (-2147483648)) (hi := 2147483647) q19 rfl
    refine hx_gf (l := 120) rfl rfl rfl ((n145 _ (hx_ne hG2 hG27 (by decide))).trans ((n128 _ (hx_ne hG2 hG27 (by decide))).trans ((n106 _ (hx_ne hG2 hG27 (by decide))).trans ((n84 _ (hx_ne hG2 hG27 (by decide))).trans ((n62 _ (hx_ne hG2 hG27 (by decide))).trans ((n40 _ (hx_ne hG2 hG27 (by decide))).trans g18)))))) e156 ?_
    refine hx_is (s := 19) (l := 121) rfl rfl rfl hw146 hG27 g142 (by omega) (by omega) hx_sg0 (fun w159 f160 g161 e162 o163 n164 hw165 n166 => ?_)
    have hs167 := ty_same_tr hs148 (n166 fz (hx_ok hfz (by decide)))
    have hf168 : F4 G F w159 := by
      refine ⟨FP_put hf149.1 g161 n164 (fun s hs => ?_), hF _ _ (n166 pr4 (by decide)) hf149.2⟩
      have old := hf149.1 _ _ hG27 g142 s hs
      refine ⟨fun i h1 h2 => ?_, ?_⟩
      · by_cases e : 72 * s + i = z153.toInt.toNat
        · rw [e, e162]
          omega
        · rw [o163 _ e]
          exact old.1 i h1 h2
      · by_cases e : 72 * s + 68 = z153.toInt.toNat
        · rw [e, e162]
          omega
        · rw [o163 _ e]
          exact old.2
    refine ax_go 1 (y := (122, [some (.ref o), some (.int kd), some (.ref la), some (.int z134)], [.ref o], w159, 0, 0)) rfl trivial ?_
    refine hx_gf (l := 125) rfl rfl rfl ((n164 _ (hx_ne hG0 hG27 (by decide))).trans ((n145 _ (hx_ne hG0 hG27 (by decide))).trans ((n128 _ (hx_ne hG0 hG27 (by decide))).trans ((n106 _ (hx_ne hG0 hG27 (by decide))).trans ((n84 _ (hx_ne hG0 hG27 (by decide))).trans ((n62 _ (hx_ne hG0 hG27 (by decide))).trans ((n40 _ (hx_ne hG0 hG27 (by decide))).trans g2))))))) e26 ?_
    refine ax_go 1 (y := (126, [some (.ref o), some (.int kd), some (.ref la), some (.int z134)], [.int z134, .ref p25], w159, 0, 0)) rfl trivial ?_
    refine hx_k (l := 127) (m := 2) rfl rfl (by decide) (fun z170 h171 => ?_)
    refine hx_add (l := 128) rfl rfl (fun z172 h173 => ?_)
    replace h173 := h173 (by omega) (by omega)
    refine ax_go 1 (y := (129, [some (.ref o), some (.int kd), some (.ref la), some (.int z134)], [.ref la, .int z172, .ref p25], w159, 0, 0)) rfl trivial ?_
    obtain ⟨p174, e175, hG176⟩ := hx_fr (k := 7) (s := 13) q19 rfl
    refine hx_gf (l := 132) rfl rfl rfl ((n164 _ (hx_ne hG2 hG27 (by decide))).trans ((n145 _ (hx_ne hG2 hG27 (by decide))).trans ((n128 _ (hx_ne hG2 hG27 (by decide))).trans ((n106 _ (hx_ne hG2 hG27 (by decide))).trans ((n84 _ (hx_ne hG2 hG27 (by decide))).trans ((n62 _ (hx_ne hG2 hG27 (by decide))).trans ((n40 _ (hx_ne hG2 hG27 (by decide))).trans g18))))))) e175 ?_
    refine hx_k (l := 133) (m := 0) rfl rfl (by decide) (fun z177 h178 => ?_)
    obtain ⟨f179, g180, r181⟩ := hx_row hw165 hG176 (s := 13) (kd := 0) (n := 4) rfl (by decide)
    refine hx_il (l := 134) rfl rfl g180 (by omega) (by omega) (fun z182 h183 => ?_)
    refine hx_is (s := 19) (l := 135) rfl rfl rfl hw165 hG27 g161 (by omega) (by omega) hx_sg0 (fun w184 f185 g186 e187 o188 n189 hw190 n191 => ?_)
    have hs192 := ty_same_tr hs167 (n191 fz (hx_ok hfz (by decide)))
    have hf193 : F4 G F w184 := by
      refine ⟨FP_put hf168.1 g186 n189 (fun s hs => ?_), hF _ _ (n191 pr4 (by decide)) hf168.2⟩
      have old := hf168.1 _ _ hG27 g161 s hs
      refine ⟨fun i h1 h2 => ?_, ?_⟩
      · by_cases e : 72 * s + i = z172.toInt.toNat
        · rw [e, e187]
          omega
        · rw [o188 _ e]
          exact old.1 i h1 h2
      · by_cases e : 72 * s + 68 = z172.toInt.toNat
        · rw [e, e187]
          omega
        · rw [o188 _ e]
          exact old.2
    refine ax_go 1 (y := (136, [some (.ref o), some (.int kd), some (.ref la), some (.int z134)], [.ref o], w184, 0, 0)) rfl trivial ?_
    refine hx_gf (l := 139) rfl rfl rfl ((n189 _ (hx_ne hG0 hG27 (by decide))).trans ((n164 _ (hx_ne hG0 hG27 (by decide))).trans ((n145 _ (hx_ne hG0 hG27 (by decide))).trans ((n128 _ (hx_ne hG0 hG27 (by decide))).trans ((n106 _ (hx_ne hG0 hG27 (by decide))).trans ((n84 _ (hx_ne hG0 hG27 (by decide))).trans ((n62 _ (hx_ne hG0 hG27 (by decide))).trans ((n40 _ (hx_ne hG0 hG27 (by decide))).trans g2)))))))) e26 ?_
    refine ax_go 1 (y := (140, [some (.ref o), some (.int kd), some (.ref la), some (.int z134)], [.int z134, .ref p25], w184, 0, 0)) rfl trivial ?_
    refine hx_k (l := 141) (m := 3) rfl rfl (by decide) (fun z195 h196 => ?_)
    refine hx_add (l := 142) rfl rfl (fun z197 h198 => ?_)
    replace h198 := h198 (by omega) (by omega)
    refine ax_go 1 (y := (143, [some (.ref o), some (.int kd), some (.ref la), some (.int z134)], [.int kd, .int z197, .ref p25], w184, 0, 0)) rfl trivial ?_
    refine hx_is (s := 19) (l := 144) rfl rfl rfl hw190 hG27 g186 (by omega) (by omega) hx_sg0 (fun w199 f200 g201 e202 o203 n204 hw205 n206 => ?_)
    have hs207 := ty_same_tr hs192 (n206 fz (hx_ok hfz (by decide)))
    have hf208 : F4 G F w199 := by
      refine ⟨FP_put hf193.1 g201 n204 (fun s hs => ?_), hF _ _ (n206 pr4 (by decide)) hf193.2⟩
      have old := hf193.1 _ _ hG27 g186 s hs
      refine ⟨fun i h1 h2 => ?_, ?_⟩
      · by_cases e : 72 * s + i = z197.toInt.toNat
        · rw [e, e202]
          omega
        · rw [o203 _ e]
          exact old.1 i h1 h2
      · by_cases e : 72 * s + 68 = z197.toInt.toNat
        · rw [e, e202]
          omega
        · rw [o203 _ e]
          exact old.2
    exact ax_ret rfl rfl trivial ⟨none, _, rfl, hw205, hf208, hs207, trivial, trivial⟩
def fb_X4_takeBack : List (Nat × Nat) := [(8, 3), (8, 5), (19, 999), (32, 999), (33, 999), (34, 999), (35, 999), (44, 999), (45, 999), (1, 0), (18, 999), (2, 11), (2, 14), (1, 15), (54, 11), (4, 2), (7, 9), (30, 13), (30, 34), (30, 2), (30, 22), (30, 23), (30, 24), (30, 25), (46, 999), (47, 999), (30, 35), (30, 36), (7, 0), (24, 999), (37, 999), (30, 4), (30, 5), (30, 6), (30, 8), (30, 9), (30, 10), (30, 11), (30, 14), (30, 15), (30, 16), (30, 17), (30, 18), (30, 19), (30, 20), (30, 21), (39, 999), (40, 999), (41, 999), (30, 30), (30, 42), (30, 43), (30, 44), (1, 1), (1, 3), (1, 10), (1, 13), (8, 0), (30, 49), (2, 15), (8, 1)]
set_option maxHeartbeats 8000000 in
theorem h_X4_takeBack {ro : ab_R} {G : Nat → Nat} {fz : List (Nat × Nat)} {F : ab_W → Prop} (hF : ∀ w w', ty_same G pr4 w w' → F w → F w') (hfz : ∀ q ∈ fz, q ∈ fb_X4_takeBack) (d : Nat) : ck_ct ro sp_ G (F4 G F) fz (ab_Ev ro ab_codes (d + 2)) 40 [(2, 3, 0), (2, 2, 0)] (some (0, (-2147483648), 2147483647)) 0 0 := by
  have hFF := F4_same hF
  refine ck_hand (d := d + 1) (by decide) (fun as w hw hf has => ?_)
  match as, has with
  | [v0, v1], ⟨h0, h1, _⟩ =>
    obtain ⟨o, rfl, _, hG0⟩ := ty_refn h0 rfl rfl
    replace hG0 : G o = 3 := hG0
    obtain ⟨la, rfl, _, hG1⟩ := ty_refn h1 rfl rfl
    replace hG1 : G la = 2 := hG1
    refine ⟨rfl, ?_⟩
    change ab_wp ro (ab_Ev ro ab_codes (d + 1)) 4 false (some .int) ab_k_X4_takeBack (fun o_1 => ∃ v w1, o_1 = (v, w1, 0, 0) ∧ ty_w sp_ G w1 ∧ (F4 G F) w1 ∧ ty_same G fz w w1 ∧ ck_res G (some (0, (-2147483648), 2147483647)) v ∧ ck_wit 0 0 [.ref o, .ref la] v) (0, [some (.ref o), some (.ref la), none], [], w, 0, 0)
    refine ax_go 1 (y := (1, [some (.ref o), some (.ref la), none], [.ref o], w, 0, 0)) rfl trivial ?_
    obtain ⟨fs1, g2, -, q3⟩ := hx_obj hw hG0 (s := 3) rfl (by decide)
    obtain ⟨x4, e5, a6, b7⟩ := hx_fi (k := 2) (lo := 0) (hi := 16) q3 rfl
    refine hx_gf (l := 4) rfl rfl rfl g2 e5 ?_
    refine hx_if_gt (l := 7) rfl rfl (fun h8 => ?_) (fun h8 => ?_)
    · -- 9
      refine ax_go 2 (y := (11, [some (.ref o), some (.ref la), none], [.ref o, .ref o], w, 0, 0)) rfl trivial ?_
      refine hx_gf (l := 14) rfl rfl rfl g2 e5 ?_
      refine hx_k (l := 15) (m := 1) rfl rfl (by decide) (fun z9 h10 => ?_)
      refine hx_sub (l := 16) rfl rfl (fun z11 h12 => ?_)
      replace h12 := h12 (by omega) (by omega)
      refine hx_pf (q := (0, 0, 0, 0, 0, 16)) (s := 3) (l := 19) (v := .int z11) rfl rfl rfl (by decide) rfl rfl rfl hw hG0 g2 trivial (hx_ti (G := G) (lo := 0) (hi := 16) (by omega) (by omega)) (fun w13 fs14 g15 e16 o17 n18 hw19 n20 => ?_)
      have hs21 := ty_same_tr (ty_same_rf w) (n20 fz (hx_ok hfz (by decide)))
      have hf22 := hFF _ _ (n20 pr_ (by decide)) hf
      refine ax_go 2 (y := (21, [some (.ref o), some (.ref la), none], [.ref o, .ref o], w13, 0, 0)) rfl trivial ?_
      refine hx_gf (l := 24) rfl rfl rfl g15 e16 ?_
      refine hx_pi (l := 27) (as := [.ref o, .int z11]) rfl rfl (hx_iv (j := 41) (n := 1) (o := o) (r := []) rfl rfl g15 rfl) (h_X4_slotAt (fz := fz) hFF (fun q hq => (by decide +kernel : ∀ q ∈ fb_X4_takeBack, q ∈ fb_X4_slotAt) q (hfz q hq)) (d + 0)) hw19 hf22 ⟨(hx_tr (G := G) (s := 3) (b := 0) hG0 (by decide)), (hx_ti (G := G) (lo := 0) (hi := 16) (by omega) (by omega)), trivial⟩ trivial (fun w23 z28 hw24 hf25 m26 a29 b30 u31 => ?_)
      rw [u31.1]
      obtain ⟨sl, zz, hsl, hz1, hz2⟩ := u31.2
      obtain rfl : z28 = zz := by cases hz1; rfl
      refine ax_go 2 (y := (29, [some (.ref o), some (.ref la), some (.int z28)], [.ref o], w13, 0, 0)) rfl trivial ?_
      have q32 := hx_oq hw19 g15 hG0 (s := 3) rfl
      obtain ⟨p33, e34, hG35⟩ := hx_fr (k := 0) (s := 19) q32 rfl
      refine hx_gf (l := 32) rfl rfl rfl g15 e34 ?_
      refine ax_go 2 (y := (34, [some (.ref o), some (.ref la), some (.int z28)], [.ref la, .int z28, .ref p33], w13, 0, 0)) rfl trivial ?_
      obtain ⟨fs36, g37, -, q38⟩ := hx_obj hw19 hG1 (s := 2) rfl (by decide)
      obtain ⟨p39, e40, hG41⟩ := hx_fr (k := 2) (s := 11) q38 rfl
      refine hx_gf (l := 37) rfl rfl rfl g37 e40 ?_
      refine hx_k (l := 38) (m := 0) rfl rfl (by decide) (fun z42 h43 => ?_)
      refine hx_k (l := 40) (m := 10) rfl rfl (by decide) (fun z44 h45 => ?_)
      obtain ⟨f46, g47, r48⟩ := hx_row hw19 hG35 (s := 19) (kd := 0) (n := 1224) rfl (by decide)
      obtain ⟨f49, g50, r51⟩ := hx_row hw19 hG41 (s := 11) (kd := 0) (n := 10) rfl (by decide)
      refine hx_cpy (s := 11) (l := 43) rfl rfl (by decide) rfl rfl hw19 hG41 g47 g50 (by omega) (by omega) (by omega) (by omega) (by omega) (fun q hq => by cases hq) (fun w52 f53 g54 e55 n56 hw57 n58 => ?_)
      have hs59 := ty_same_tr hs21 (n58 fz (hx_ok hfz (by decide)))
      have hf60 := hFF _ _ (n58 pr_ (by decide)) hf22
      refine hx_iinc (x := z28) (n := 10) (l := 46) rfl rfl rfl (Nat.le_of_ble_eq_true rfl) (by omega) (by omega) (by decide) (fun z61 h62 => ?_)
      change ab_wp ro (ab_Ev ro ab_codes (d + 1)) 4 false (some .int) ab_k_X4_takeBack (fun o_1 => ∃ v w1, o_1 = (v, w1, 0, 0) ∧ ty_w sp_ G w1 ∧ (F4 G F) w1 ∧ ty_same G fz w w1 ∧ ck_res G (some (0, (-2147483648), 2147483647)) v ∧ ck_wit 0 0 [.ref o, .ref la] v) (46, [some (.ref o), some (.ref la), some (.int z61)], [], w52, 0, 0)
      refine ax_go 1 (y := (47, [some (.ref o), some (.ref la), some (.int z61)], [.ref o], w52, 0, 0)) rfl trivial ?_
      refine hx_gf (l := 50) rfl rfl rfl ((n56 _ (hx_ne hG0 hG41 (by decide))).trans g15) e34 ?_
      refine ax_go 2 (y := (52, [some (.ref o), some (.ref la), some (.int z61)], [.ref la, .int z61, .ref p33], w52, 0, 0)) rfl trivial ?_
      obtain ⟨p63, e64, hG65⟩ := hx_fr (k := 3) (s := 11) q38 rfl
      refine hx_gf (l := 55) rfl rfl rfl ((n56 _ (hx_ne hG1 hG41 (by decide))).trans g37) e64 ?_
      refine hx_k (l := 56) (m := 0) rfl rfl (by decide) (fun z66 h67 => ?_)
      refine hx_k (l := 58) (m := 10) rfl rfl (by decide) (fun z68 h69 => ?_)
      obtain ⟨f70, g71, r72⟩ := hx_row hw57 hG65 (s := 11) (kd := 0) (n := 10) rfl (by decide)
      refine hx_cpy (s := 11) (l := 61) rfl rfl (by decide) rfl rfl hw57 hG65 ((n56 _ (hx_ne hG35 hG41 (by decide))).trans g47) g71 (by omega) (by omega) (by omega) (by omega) (by omega) (fun q hq => by cases hq) (fun w73 f74 g75 e76 n77 hw78 n79 => ?_)
      have hs80 := ty_same_tr hs59 (n79 fz (hx_ok hfz (by decide)))
      have hf81 := hFF _ _ (n79 pr_ (by decide)) hf60
      refine hx_iinc (x := z61) (n := 10) (l := 64) rfl rfl rfl (Nat.le_of_ble_eq_true rfl) (by omega) (by omega) (by decide) (fun z82 h83 => ?_)
      change ab_wp ro (ab_Ev ro ab_codes (d + 1)) 4 false (some .int) ab_k_X4_takeBack (fun o_1 => ∃ v w1, o_1 = (v, w1, 0, 0) ∧ ty_w sp_ G w1 ∧ (F4 G F) w1 ∧ ty_same G fz w w1 ∧ ck_res G (some (0, (-2147483648), 2147483647)) v ∧ ck_wit 0 0 [.ref o, .ref la] v) (64, [some (.ref o), some (.ref la), some (.int z82)], [], w73, 0, 0)
      refine ax_go 1 (y := (65, [some (.ref o), some (.ref la), some (.int z82)], [.ref o], w73, 0, 0)) rfl trivial ?_
      refine hx_gf (l := 68) rfl rfl rfl ((n77 _ (hx_ne hG0 hG65 (by decide))).trans ((n56 _ (hx_ne hG0 hG41 (by decide))).trans g15)) e34 ?_
      refine ax_go 2 (y := (70, [some (.ref o), some (.ref la), some (.int z82)], [.ref la, .int z82, .ref p33], w73, 0, 0)) rfl trivial ?_
      obtain ⟨p84, e85, hG86⟩ := hx_fr (k := 4) (s := 15) q38 rfl
      refine hx_gf (l := 73) rfl rfl rfl ((n77 _ (hx_ne hG1 hG65 (by decide))).trans ((n56 _ (hx_ne hG1 hG41 (by decide))).trans g37)) e85 ?_
      refine hx_k (l := 74) (m := 0) rfl rfl (by decide) (fun z87 h88 => ?_)
      refine hx_k (l := 76) (m := 16) rfl rfl (by decide) (fun z89 h90 => ?_)
      obtain ⟨f91, g92, r93⟩ := hx_row hw78 hG86 (s := 15) (kd := 0) (n := 16) rfl (by decide)
      have ry101 : ty_rw [(0, 16, 1, 0, 0, 9)] (va_cpy f46 f91 z82.toInt.toNat z87.toInt.toNat z89.toInt.toNat) := by
        intro q hq i h1 h2 h3
        obtain rfl := List.mem_singleton.mp hq
        replace h2 : i < 16 := h2
        unfold va_cpy
        rw [if_pos (by omega)]
        have old := (hf81.1 _ _ hG35 ((n77 _ (hx_ne hG35 hG65 (by decide))).trans ((n56 _ (hx_ne hG35 hG41 (by decide))).trans g47)) sl hsl).1 (20 + i) (by omega) (by omega)
        rw [show z82.toInt.toNat + (i - z87.toInt.toNat) = 72 * sl + (20 + i) by omega]
        exact old
      refine hx_cpy (s := 15) (l := 79) rfl rfl (by decide) rfl rfl hw78 hG86 ((n77 _ (hx_ne hG35 hG65 (by decide))).trans ((n56 _ (hx_ne hG35 hG41 (by decide))).trans g47)) g92 (by omega) (by omega) (by omega) (by omega) (by omega) ry101 (fun w94 f95 g96 e97 n98 hw99 n100 => ?_)
      have hs102 := ty_same_tr hs80 (n100 fz (hx_ok hfz (by decide)))
      have hf103 := hFF _ _ (n100 pr_ (by decide)) hf81
      refine hx_iinc (x := z82) (n := 16) (l := 82) rfl rfl rfl (Nat.le_of_ble_eq_true rfl) (by omega) (by omega) (by decide) (fun z104 h105 => ?_)
      change ab_wp ro (ab_Ev ro ab_codes (d + 1)) 4 false (some .int) ab_k_X4_takeBack (fun o_1 => ∃ v w1, o_1 = (v, w1, 0, 0) ∧ ty_w sp_ G w1 ∧ (F4 G F) w1 ∧ ty_same G fz w w1 ∧ ck_res G (some (0, (-2147483648), 2147483647)) v ∧ ck_wit 0 0 [.ref o, .ref la] v) (82, [some (.ref o), some (.ref la), some (.int z104)], [], w94, 0, 0)
      refine ax_go 1 (y := (83, [some (.ref o), some (.ref la), some (.int z104)], [.ref o], w94, 0, 0)) rfl trivial ?_
      refine hx_gf (l := 86) rfl rfl rfl ((n98 _ (hx_ne hG0 hG86 (by decide))).trans ((n77 _ (hx_ne hG0 hG65 (by decide))).trans ((n56 _ (hx_ne hG0 hG41 (by decide))).trans g15))) e34 ?_
      refine ax_go 2 (y := (88, [some (.ref o), some (.ref la), some (.int z104)], [.ref la, .int z104, .ref p33], w94, 0, 0)) rfl trivial ?_
      obtain ⟨p106, e107, hG108⟩ := hx_fr (k := 5) (s := 12) q38 rfl
      refine hx_gf (l := 91) rfl rfl rfl ((n98 _ (hx_ne hG1 hG86 (by decide))).trans ((n77 _ (hx_ne hG1 hG65 (by decide))).trans ((n56 _ (hx_ne hG1 hG41 (by decide))).trans g37))) e107 ?_
      refine hx_k (l := 92) (m := 0) rfl rfl (by decide) (fun z109 h110 => ?_)
      refine hx_k (l := 94) (m := 16) rfl rfl (by decide) (fun z111 h112 => ?_)
      obtain ⟨f113, g114, r115⟩ := hx_row hw99 hG108 (s := 12) (kd := 0) (n := 16) rfl (by decide)
      refine hx_cpy (s := 12) (l := 97) rfl rfl (by decide) rfl rfl hw99 hG108 ((n98 _ (hx_ne hG35 hG86 (by decide))).trans ((n77 _ (hx_ne hG35 hG65 (by decide))).trans ((n56 _ (hx_ne hG35 hG41 (by decide))).trans g47))) g114 (by omega) (by omega) (by omega) (by omega) (by omega) (fun q hq => by cases hq) (fun w116 f117 g118 e119 n120 hw121 n122 => ?_)
      have hs123 := ty_same_tr hs102 (n122 fz (hx_ok hfz (by decide)))
      have hf124 := hFF _ _ (n122 pr_ (by decide)) hf103
      refine hx_iinc (x := z104) (n := 16) (l := 100) rfl rfl rfl (Nat.le_of_ble_eq_true rfl) (by omega) (by omega) (by decide) (fun z125 h126 => ?_)
      change ab_wp ro (ab_Ev ro ab_codes (d + 1)) 4 false (some .int) ab_k_X4_takeBack (fun o_1 => ∃ v w1, o_1 = (v, w1, 0, 0) ∧ ty_w sp_ G w1 ∧ (F4 G F) w1 ∧ ty_same G fz w w1 ∧ ck_res G (some (0, (-2147483648), 2147483647)) v ∧ ck_wit 0 0 [.ref o, .ref la] v) (100, [some (.ref o), some (.ref la), some (.int z125)], [], w116, 0, 0)
      refine ax_go 1 (y := (101, [some (.ref o), some (.ref la), some (.int z125)], [.ref o], w116, 0, 0)) rfl trivial ?_
      refine hx_gf (l := 104) rfl rfl rfl ((n120 _ (hx_ne hG0 hG108 (by decide))).trans ((n98 _ (hx_ne hG0 hG86 (by decide))).trans ((n77 _ (hx_ne hG0 hG65 (by decide))).trans ((n56 _ (hx_ne hG0 hG41 (by decide))).trans g15)))) e34 ?_
      refine ax_go 2 (y := (106, [some (.ref o), some (.ref la), some (.int z125)], [.ref la, .int z125, .ref p33], w116, 0, 0)) rfl trivial ?_
      obtain ⟨p127, e128, hG129⟩ := hx_fr (k := 6) (s := 12) q38 rfl
      refine hx_gf (l := 109) rfl rfl rfl ((n120 _ (hx_ne hG1 hG108 (by decide))).trans ((n98 _ (hx_ne hG1 hG86 (by decide))).trans ((n77 _ (hx_ne hG1 hG65 (by decide))).trans ((n56 _ (hx_ne hG1 hG41 (by decide))).trans g37)))) e128 ?_
      refine hx_k (l := 110) (m := 0) rfl rfl (by decide) (fun z130 h131 => ?_)
      refine hx_k (l := 112) (m := 16) rfl rfl (by decide) (fun z132 h133 => ?_)
      obtain ⟨f134, g135, r136⟩ := hx_row hw121 hG129 (s := 12) (kd := 0) (n := 16) rfl (by decide)
      refine hx_cpy (s := 12) (l := 115) rfl rfl (by decide) rfl rfl hw121 hG129 ((n120 _ (hx_ne hG35 hG108 (by decide))).trans ((n98 _ (hx_ne hG35 hG86 (by decide))).trans ((n77 _ (hx_ne hG35 hG65 (by decide))).trans ((n56 _ (hx_ne hG35 hG41 (by decide))).trans g47)))) g135 (by omega) (by omega) (by omega) (by omega) (by omega) (fun q hq => by cases hq) (fun w137 f138 g139 e140 n141 hw142 n143 => ?_)
      have hs144 := ty_same_tr hs123 (n143 fz (hx_ok hfz (by decide)))
      have hf145 := hFF _ _ (n143 pr_ (by decide)) hf124
      refine hx_iinc (x := z125) (n := 16) (l := 118) rfl rfl rfl (Nat.le_of_ble_eq_true rfl) (by omega) (by omega) (by decide) (fun z146 h147 => ?_)
      change ab_wp ro (ab_Ev ro ab_codes (d + 1)) 4 false (some .int) ab_k_X4_takeBack (fun o_1 => ∃ v w1, o_1 = (v, w1, 0, 0) ∧ ty_w sp_ G w1 ∧ (F4 G F) w1 ∧ ty_same G fz w w1 ∧ ck_res G (some (0, (-2147483648), 2147483647)) v ∧ ck_wit 0 0 [.ref o, .ref la] v) (118, [some (.ref o), some (.ref la), some (.int z146)], [], w137, 0, 0)
      refine ax_go 2 (y := (120, [some (.ref o), some (.ref la), some (.int z146)], [.ref o, .ref la], w137, 0, 0)) rfl trivial ?_
      refine hx_gf (l := 123) rfl rfl rfl ((n141 _ (hx_ne hG0 hG129 (by decide))).trans ((n120 _ (hx_ne hG0 hG108 (by decide))).trans ((n98 _ (hx_ne hG0 hG86 (by decide))).trans ((n77 _ (hx_ne hG0 hG65 (by decide))).trans ((n56 _ (hx_ne hG0 hG41 (by decide))).trans g15))))) e34 ?_
      refine ax_go 1 (y := (124, [some (.ref o), some (.ref la), some (.int z146)], [.int z146, .ref p33, .ref la], w137, 0, 0)) rfl trivial ?_
      refine hx_il (l := 125) rfl rfl ((n141 _ (hx_ne hG35 hG129 (by decide))).trans ((n120 _ (hx_ne hG35 hG108 (by decide))).trans ((n98 _ (hx_ne hG35 hG86 (by decide))).trans ((n77 _ (hx_ne hG35 hG65 (by decide))).trans ((n56 _ (hx_ne hG35 hG41 (by decide))).trans g47))))) (by omega) (by omega) (fun z148 h149 => ?_)
      have b150 := (hf145.1 _ _ hG35 ((n141 _ (hx_ne hG35 hG129 (by decide))).trans ((n120 _ (hx_ne hG35 hG108 (by decide))).trans ((n98 _ (hx_ne hG35 hG86 (by decide))).trans ((n77 _ (hx_ne hG35 hG65 (by decide))).trans ((n56 _ (hx_ne hG35 hG41 (by decide))).trans g47))))) sl hsl).2
      rw [show 72 * sl + 68 = z146.toInt.toNat by omega, ← h149] at b150
      refine hx_pf (q := (0, 0, 0, 0, 0, 16)) (s := 2) (l := 128) (v := .int z148) rfl rfl rfl (by decide) rfl rfl rfl hw142 hG1 ((n141 _ (hx_ne hG1 hG129 (by decide))).trans ((n120 _ (hx_ne hG1 hG108 (by decide))).trans ((n98 _ (hx_ne hG1 hG86 (by decide))).trans ((n77 _ (hx_ne hG1 hG65 (by decide))).trans ((n56 _ (hx_ne hG1 hG41 (by decide))).trans g37))))) trivial (hx_ti (G := G) (lo := 0) (hi := 16) (by omega) (by omega)) (fun w151 fs152 g153 e154 o155 n156 hw157 n158 => ?_)
      have hs159 := ty_same_tr hs144 (n158 fz (hx_ok hfz (by decide)))
      have hf160 := hFF _ _ (n158 pr_ (by decide)) hf145
      refine ax_go 2 (y := (130, [some (.ref o), some (.ref la), some (.int z146)], [.ref o, .ref la], w151, 0, 0)) rfl trivial ?_
      refine hx_gf (l := 133) rfl rfl rfl ((n156 _ (hx_ne hG0 hG1 (by decide))).trans ((n141 _ (hx_ne hG0 hG129 (by decide))).trans ((n120 _ (hx_ne hG0 hG108 (by decide))).trans ((n98 _ (hx_ne hG0 hG86 (by decide))).trans ((n77 _ (hx_ne hG0 hG65 (by decide))).trans ((n56 _ (hx_ne hG0 hG41 (by decide))).trans g15)))))) e34 ?_
      refine ax_go 1 (y := (134, [some (.ref o), some (.ref la), some (.int z146)], [.int z146, .ref p33, .ref la], w151, 0, 0)) rfl trivial ?_
      refine hx_k (l := 135) (m := 1) rfl rfl (by decide) (fun z161 h162 => ?_)
      refine hx_add (l := 136) rfl rfl (fun z163 h164 => ?_)
      replace h164 := h164 (by omega) (by omega)
      refine hx_il (l := 137) rfl rfl ((n156 _ (hx_ne hG35 hG1 (by decide))).trans ((n141 _ (hx_ne hG35 hG129 (by decide))).trans ((n120 _ (hx_ne hG35 hG108 (by decide))).trans ((n98 _ (hx_ne hG35 hG86 (by decide))).trans ((n77 _ (hx_ne hG35 hG65 (by decide))).trans ((n56 _ (hx_ne hG35 hG41 (by decide))).trans g47)))))) (by omega) (by omega) (fun z165 h166 => ?_)
      refine hx_pf (q := (0, 0, 0, 0, (-2147483648), 2147483647)) (s := 2) (l := 140) (v := .int z165) rfl rfl rfl (by decide) rfl rfl rfl hw157 hG1 g153 trivial (ck_top_ok (G := G) z165) (fun w167 fs168 g169 e170 o171 n172 hw173 n174 => ?_)
      have hs175 := ty_same_tr hs159 (n174 fz (hx_ok hfz (by decide)))
      have hf176 := hFF _ _ (n174 pr_ (by decide)) hf160
      refine ax_go 1 (y := (141, [some (.ref o), some (.ref la), some (.int z146)], [.ref la], w167, 0, 0)) rfl trivial ?_
      have q177 := hx_oq hw173 g169 hG1 (s := 2) rfl
      obtain ⟨p178, e179, hG180⟩ := hx_fr (k := 7) (s := 13) q177 rfl
      refine hx_gf (l := 144) rfl rfl rfl g169 e179 ?_
      refine hx_k (l := 145) (m := 0) rfl rfl (by decide) (fun z181 h182 => ?_)
      refine ax_go 1 (y := (146, [some (.ref o), some (.ref la), some (.int z146)], [.ref o, .int z181, .ref p178], w167, 0, 0)) rfl trivial ?_
      refine hx_gf (l := 149) rfl rfl rfl ((n172 _ (hx_ne hG0 hG1 (by decide))).trans ((n156 _ (hx_ne hG0 hG1 (by decide))).trans ((n141 _ (hx_ne hG0 hG129 (by decide))).trans ((n120 _ (hx_ne hG0 hG108 (by decide))).trans ((n98 _ (hx_ne hG0 hG86 (by decide))).trans ((n77 _ (hx_ne hG0 hG65 (by decide))).trans ((n56 _ (hx_ne hG0 hG41 (by decide))).trans g15))))))) e34 ?_
      refine ax_go 1 (y := (150, [some (.ref o), some (.ref la), some (.int z146)], [.int z146, .ref p33, .int z181, .ref p178], w167, 0, 0)) rfl trivial ?_
      refine hx_k (l := 151) (m := 2) rfl rfl (by decide) (fun z183 h184 => ?_)
      refine hx_add (l := 152) rfl rfl (fun z185 h186 => ?_)
      replace h186 := h186 (by omega) (by omega)
      refine hx_il (l := 153) rfl rfl ((n172 _ (hx_ne hG35 hG1 (by decide))).trans ((n156 _ (hx_ne hG35 hG1 (by decide))).trans ((n141 _ (hx_ne hG35 hG129 (by decide))).trans ((n120 _ (hx_ne hG35 hG108 (by decide))).trans ((n98 _ (hx_ne hG35 hG86 (by decide))).trans ((n77 _ (hx_ne hG35 hG65 (by decide))).trans ((n56 _ (hx_ne hG35 hG41 (by decide))).trans g47))))))) (by omega) (by omega) (fun z187 h188 => ?_)
      obtain ⟨f189, g190, r191⟩ := hx_row hw173 hG180 (s := 13) (kd := 0) (n := 4) rfl (by decide)
      refine hx_is (s := 13) (l := 154) rfl rfl rfl hw173 hG180 g190 (by omega) (by omega) hx_sg0 (fun w192 f193 g194 e195 o196 n197 hw198 n199 => ?_)
      have hs200 := ty_same_tr hs175 (n199 fz (hx_ok hfz (by decide)))
      have hf201 := hFF _ _ (n199 pr_ (by decide)) hf176
      refine ax_go 1 (y := (155, [some (.ref o), some (.ref la), some (.int z146)], [.ref o], w192, 0, 0)) rfl trivial ?_
      refine hx_gf (l := 158) rfl rfl rfl ((n197 _ (hx_ne hG0 hG180 (by decide))).trans ((n172 _ (hx_ne hG0 hG1 (by decide))).trans ((n156 _ (hx_ne hG0 hG1 (by decide))).trans ((n141 _ (hx_ne hG0 hG129 (by decide))).trans ((n120 _ (hx_ne hG0 hG108 (by decide))).trans ((n98 _ (hx_ne hG0 hG86 (by decide))).trans ((n77 _ (hx_ne hG0 hG65 (by decide))).trans ((n56 _ (hx_ne hG0 hG41 (by decide))).trans g15)))))))) e34 ?_
      refine ax_go 1 (y := (159, [some (.ref o), some (.ref la), some (.int z146)], [.int z146, .ref p33], w192, 0, 0)) rfl trivial ?_
      refine hx_k (l := 160) (m := 3) rfl rfl (by decide) (fun z202 h203 => ?_)
      refine hx_add (l := 161) rfl rfl (fun z204 h205 => ?_)
      replace h205 := h205 (by omega) (by omega)
      refine hx_il (l := 162) rfl rfl ((n197 _ (hx_ne hG35 hG180 (by decide))).trans ((n172 _ (hx_ne hG35 hG1 (by decide))).trans ((n156 _ (hx_ne hG35 hG1 (by decide))).trans ((n141 _ (hx_ne hG35 hG129 (by decide))).trans ((n120 _ (hx_ne hG35 hG108 (by decide))).trans ((n98 _ (hx_ne hG35 hG86 (by decide))).trans ((n77 _ (hx_ne hG35 hG65 (by decide))).trans ((n56 _ (hx_ne hG35 hG41 (by decide))).trans g47)))))))) (by omega) (by omega) (fun z206 h207 => ?_)
      exact ax_ret rfl rfl trivial ⟨some (.int z206), _, rfl, hw198, hf201, hs200, (ck_top_ok (G := G) z206), trivial⟩
    · -- 7
      refine hx_k (l := 8) (m := (-1)) rfl rfl (by decide) (fun z208 h209 => ?_)
      exact ax_ret rfl rfl trivial ⟨some (.int z208), _, rfl, hw, hf, (ty_same_rf w), (ck_top_ok (G := G) z208), trivial⟩
def fb_X5_kindOf : List (Nat × Nat) := [(8, 3), (8, 5), (19, 999), (32, 999), (33, 999), (34, 999), (35, 999), (44, 999), (45, 999), (1, 0), (18, 999), (2, 11), (2, 14), (1, 15), (54, 11), (4, 2), (7, 9), (30, 13), (30, 34), (30, 2), (30, 22), (30, 23), (30, 24), (30, 25), (46, 999), (47, 999), (30, 35), (30, 36), (7, 0), (24, 999), (37, 999), (30, 4), (30, 5), (30, 6), (30, 8), (30, 9), (30, 10), (30, 11), (30, 14), (30, 15), (30, 16), (30, 17), (30, 18), (30, 19), (30, 20), (30, 21), (39, 999), (40, 999), (41, 999), (30, 30), (30, 42), (30, 43), (30, 44), (1, 1), (1, 3), (1, 10), (1, 13), (8, 0), (30, 49), (2, 15), (8, 1)]
set_option maxHeartbeats 8000000 in
theorem h_X5_kindOf {ro : ab_R} {G : Nat → Nat} {fz : List (Nat × Nat)} {F : ab_W → Prop} (hF : ∀ w w', ty_same G pr_ w w' → F w → F w') (hfz : ∀ q ∈ fz, q ∈ fb_X5_kindOf) (d : Nat) : hx_ct ro sp_ G F fz (ab_Ev ro ab_codes (d + 1)) 62 [(0, (-2147483648), 2147483647)] (some (0, 1, 3)) (fun _ _ => True) (fun _ w _ w1 => w1 = w ∧ True) := by
  refine hx_hand (d := d + 0) (by decide) (fun as w hw hf has hP => ?_)
  match as, has with
  | [v0], ⟨h0, _⟩ =>
    obtain ⟨c, rfl, hl0, hh0⟩ := ty_int h0 rfl
    replace hl0 : ((-2147483648) : Int) ≤ c.toInt := hl0
    replace hh0 : c.toInt ≤ 2147483647 := hh0
    refine ⟨rfl, ?_⟩
    change ab_wp ro (ab_Ev ro ab_codes d) 5 false (some .int) ab_k_X5_kindOf (fun o_1 => ∃ v w1, o_1 = (v, w1, 0, 0) ∧ ty_w sp_ G w1 ∧ F w1 ∧ ty_same G fz w w1 ∧ ck_res G (some (0, 1, 3)) v ∧ (fun _ w _ w1 => w1 = w ∧ True) ([.int c] : List Value) w v w1) (0, [some (.int c)], [], w, 0, 0)
    refine ax_go 1 (y := (1, [some (.int c)], [.int c], w, 0, 0)) rfl trivial ?_
    refine hx_k (l := 3) (m := 97) rfl rfl (by decide) (fun z1 h2 => ?_)
    refine hx_ic_lt (l := 6) rfl rfl (fun h3 => ?_) (fun h3 => ?_)
    · -- 14
      refine ax_go 1 (y := (15, [some (.int c)], [.int c], w, 0, 0)) rfl trivial ?_
      refine hx_k (l := 17) (m := 48) rfl rfl (by decide) (fun z4 h5 => ?_)
      refine hx_ic_lt (l := 20) rfl rfl (fun h6 => ?_) (fun h6 => ?_)
      · -- 30
        refine hx_k (l := 31) (m := 3) rfl rfl (by decide) (fun z7 h8 => ?_)
        exact ax_ret rfl rfl trivial ⟨some (.int z7), _, rfl, hw, hf, (ty_same_rf w), (hx_ti (G := G) (lo := 1) (hi := 3) (by omega) (by omega)), ⟨rfl, trivial⟩⟩
      · -- 20
        refine ax_go 1 (y := (21, [some (.int c)], [.int c], w, 0, 0)) rfl trivial ?_
        refine hx_k (l := 23) (m := 57) rfl rfl (by decide) (fun z9 h10 => ?_)
        refine hx_ic_gt (l := 26) rfl rfl (fun h11 => ?_) (fun h11 => ?_)
        · -- 30
          refine hx_k (l := 31) (m := 3) rfl rfl (by decide) (fun z12 h13 => ?_)
          exact ax_ret rfl rfl trivial ⟨some (.int z12), _, rfl, hw, hf, (ty_same_rf w), (hx_ti (G := G) (lo := 1) (hi := 3) (by omega) (by omega)), ⟨rfl, trivial⟩⟩
        · -- 26
          refine hx_k (l := 27) (m := 2) rfl rfl (by decide) (fun z14 h15 => ?_)
          refine ax_go 1 (y := (31, [some (.int c)], [.int z14], w, 0, 0)) rfl trivial ?_
          exact ax_ret rfl rfl trivial ⟨some (.int z14), _, rfl, hw, hf, (ty_same_rf w), (hx_ti (G := G) (lo := 1) (hi := 3) (by omega) (by omega)), ⟨rfl, trivial⟩⟩
    · -- 6
      refine ax_go 1 (y := (7, [some (.int c)], [.int c], w, 0, 0)) rfl trivial ?_
      refine hx_k (l := 9) (m := 122) rfl rfl (by decide) (fun z16 h17 => ?_)
      refine hx_ic_gt (l := 12) rfl rfl (fun h18 => ?_) (fun h18 => ?_)
      · -- 14
        refine ax_go 1 (y := (15, [some (.int c)], [.int c], w, 0, 0)) rfl trivial ?_
        refine hx_k (l := 17) (m := 48) rfl rfl (by decide) (fun z19 h20 => ?_)
        refine hx_ic_lt (l := 20) rfl rfl (fun h21 => ?_) (fun h21 => ?_)
        · -- 30
          refine hx_k (l := 31) (m := 3) rfl rfl (by decide) (fun z22 h23 => ?_)
          exact ax_ret rfl rfl trivial ⟨some (.int z22), _, rfl, hw, hf, (ty_same_rf w), (hx_ti (G := G) (lo := 1) (hi := 3) (by omega) (by omega)), ⟨rfl, trivial⟩⟩
        · -- 20
          refine ax_go 1 (y := (21, [some (.int c)], [.int c], w, 0, 0)) rfl trivial ?_
          refine hx_k (l := 23) (m := 57) rfl rfl (by decide) (fun z24 h25 => ?_)
          refine hx_ic_gt (l := 26) rfl rfl (fun h26 => ?_) (fun h26 => ?_)
          · -- 30
            refine hx_k (l := 31) (m := 3) rfl rfl (by decide) (fun z27 h28 => ?_)
            exact ax_ret rfl rfl trivial ⟨some (.int z27), _, rfl, hw, hf, (ty_same_rf w), (hx_ti (G := G) (lo := 1) (hi := 3) (by omega) (by omega)), ⟨rfl, trivial⟩⟩
          · -- 26
            refine hx_k (l := 27) (m := 2) rfl rfl (by decide) (fun z29 h30 => ?_)
            refine ax_go 1 (y := (31, [some (.int c)], [.int z29], w, 0, 0)) rfl trivial ?_
            exact ax_ret rfl rfl trivial ⟨some (.int z29), _, rfl, hw, hf, (ty_same_rf w), (hx_ti (G := G) (lo := 1) (hi := 3) (by omega) (by omega)), ⟨rfl, trivial⟩⟩
      · -- 12
        refine hx_k (l := 13) (m := 1) rfl rfl (by decide) (fun z31 h32 => ?_)
        exact ax_ret rfl rfl trivial ⟨some (.int z31), _, rfl, hw, hf, (ty_same_rf w), (hx_ti (G := G) (lo := 1) (hi := 3) (by omega) (by omega)), ⟨rfl, trivial⟩⟩
def fb_X5_isSign : List (Nat × Nat) := [(8, 3), (8, 5), (19, 999), (32, 999), (33, 999), (34, 999), (35, 999), (44, 999), (45, 999), (1, 0), (18, 999), (2, 11), (2, 14), (1, 15), (54, 11), (4, 2), (7, 9), (30, 13), (30, 34), (30, 2), (30, 22), (30, 23), (30, 24), (30, 25), (46, 999), (47, 999), (30, 35), (30, 36), (7, 0), (24, 999), (37, 999), (30, 4), (30, 5), (30, 6), (30, 8), (30, 9), (30, 10), (30, 11), (30, 14), (30, 15), (30, 16), (30, 17), (30, 18), (30, 19), (30, 20), (30, 21), (39, 999), (40, 999), (41, 999), (30, 30), (30, 42), (30, 43), (30, 44), (1, 1), (1, 3), (1, 10), (1, 13), (8, 0), (30, 49), (2, 15), (8, 1)]
set_option maxHeartbeats 8000000 in
theorem h_X5_isSign {ro : ab_R} {G : Nat → Nat} {fz : List (Nat × Nat)} {F : ab_W → Prop} (hF : ∀ w w', ty_same G pr5 w w' → F w → F w') (hfz : ∀ q ∈ fz, q ∈ fb_X5_isSign) (d : Nat) : ck_ct ro sp_ G (F5 G F) fz (ab_Ev ro ab_codes (d + 1)) 64 [(2, 8, 0), (0, (-2147483648), 2147483647)] (some (0, 0, 1)) 0 0 := by
  have hFF := F5_same hF
  refine ck_hand (d := d + 0) (by decide) (fun as w hw hf has => ?_)
  match as, has with
  | [v0, v1], ⟨h0, h1, _⟩ =>
    obtain ⟨o, rfl, _, hG0⟩ := ty_refn h0 rfl rfl
    replace hG0 : G o = 8 := hG0
    obtain ⟨c, rfl, hl1, hh1⟩ := ty_int h1 rfl
    replace hl1 : ((-2147483648) : Int) ≤ c.toInt := hl1
    replace hh1 : c.toInt ≤ 2147483647 := hh1
    refine ⟨rfl, ?_⟩
    change ab_wp ro (ab_Ev ro ab_codes d) 5 false (some .boolean) ab_k_X5_isSign (fun o_1 => ∃ v w1, o_1 = (v, w1, 0, 0) ∧ ty_w sp_ G w1 ∧ (F5 G F) w1 ∧ ty_same G fz w w1 ∧ ck_res G (some (0, 0, 1)) v ∧ ck_wit 0 0 [.ref o, .int c] v) (0, [some (.ref o), some (.int c)], [], w, 0, 0)
    refine ax_go 1 (y := (1, [some (.ref o), some (.int c)], [.ref o], w, 0, 0)) rfl trivial ?_
    obtain ⟨fs1, g2, -, q3⟩ := hx_obj hw hG0 (s := 8) rfl (by decide)
    obtain ⟨x4, e5, a6, b7⟩ := hx_fi (k := 5) (lo := (-2147483648)) (hi := 2147483647) q3 rfl
    refine hx_gf (l := 4) rfl rfl rfl g2 e5 ?_
    refine hx_k (l := 5) (m := 3) rfl rfl (by decide) (fun z8 h9 => ?_)
    refine hx_ic_ne (l := 8) rfl rfl (fun h10 => ?_) (fun h10 => ?_)
    · -- 25
      refine hx_k (l := 26) (m := 0) rfl rfl (by decide) (fun z11 h12 => ?_)
      exact ax_ret rfl rfl ⟨hx_01 (by omega) (by omega), trivial⟩ ⟨some (.int z11), _, rfl, hw, hf, (ty_same_rf w), (hx_ti (G := G) (lo := 0) (hi := 1) (by omega) (by omega)), trivial⟩
    · -- 8
      refine ax_go 1 (y := (9, [some (.ref o), some (.int c)], [.ref o], w, 0, 0)) rfl trivial ?_
      obtain ⟨p13, e14, hG15⟩ := hx_fr (k := 0) (s := 24) q3 rfl
      refine hx_gf (l := 12) rfl rfl rfl g2 e14 ?_
      refine ax_go 1 (y := (13, [some (.ref o), some (.int c)], [.ref o, .ref p13], w, 0, 0)) rfl trivial ?_
      obtain ⟨x16, e17, a18, b19⟩ := hx_fi (k := 3) (lo := 0) (hi := 400) q3 rfl
      refine hx_gf (l := 16) rfl rfl rfl g2 e17 ?_
      have b20 := hf.1 _ _ _ x4 x16 hG0 g2 e5 e17 (by omega)
      obtain ⟨f21, g22, r23⟩ := hx_row hw hG15 (s := 24) (kd := 0) (n := 400) rfl (by decide)
      refine hx_il (l := 17) rfl rfl g22 (by omega) (by omega) (fun z24 h25 => ?_)
      refine ax_go 1 (y := (18, [some (.ref o), some (.int c)], [.int c, .int z24], w, 0, 0)) rfl trivial ?_
      refine hx_ic_ne (l := 21) rfl rfl (fun h26 => ?_) (fun h26 => ?_)
      · -- 25
        refine hx_k (l := 26) (m := 0) rfl rfl (by decide) (fun z27 h28 => ?_)
        exact ax_ret rfl rfl ⟨hx_01 (by omega) (by omega), trivial⟩ ⟨some (.int z27), _, rfl, hw, hf, (ty_same_rf w), (hx_ti (G := G) (lo := 0) (hi := 1) (by omega) (by omega)), trivial⟩
      · -- 21
        refine hx_k (l := 22) (m := 1) rfl rfl (by decide) (fun z29 h30 => ?_)
        refine ax_go 1 (y := (26, [some (.ref o), some (.int c)], [.int z29], w, 0, 0)) rfl trivial ?_
        exact ax_ret rfl rfl ⟨hx_01 (by omega) (by omega), trivial⟩ ⟨some (.int z29), _, rfl, hw, hf, (ty_same_rf w), (hx_ti (G := G) (lo := 0) (hi := 1) (by omega) (by omega)), trivial⟩
def fb_X5_fail : List (Nat × Nat) := [(8, 3), (19, 999), (32, 999), (33, 999), (34, 999), (35, 999), (44, 999), (45, 999), (1, 0), (18, 999), (2, 11), (2, 14), (1, 15), (54, 11), (4, 2), (7, 9), (30, 13), (30, 34), (30, 2), (30, 22), (30, 23), (30, 24), (30, 25), (46, 999), (47, 999), (30, 35), (30, 36), (7, 0), (24, 999), (37, 999), (30, 4), (30, 5), (30, 6), (30, 8), (30, 9), (30, 10), (30, 11), (30, 14), (30, 15), (30, 16), (30, 17), (30, 18), (30, 19), (30, 20), (30, 21), (39, 999), (40, 999), (41, 999), (30, 30), (30, 42), (30, 43), (30, 44), (1, 1), (1, 3), (1, 10), (1, 13), (8, 0), (30, 49), (2, 15), (8, 1)]
set_option maxHeartbeats 8000000 in
theorem h_X5_fail {ro : ab_R} {G : Nat → Nat} {fz : List (Nat × Nat)} {F : ab_W → Prop} (hF : ∀ w w', ty_same G pr5 w w' → F w → F w') (hfz : ∀ q ∈ fz, q ∈ fb_X5_fail) (d : Nat) : ck_ct ro sp_ G (F5 G F) fz (ab_Ev ro ab_codes (d + 1)) 60 [(2, 8, 0)] none 0 0 := by
  have hFF := F5_same hF
  refine ck_hand (d := d + 0) (by decide) (fun as w hw hf has => ?_)
  match as, has with
  | [v0], ⟨h0, _⟩ =>
    obtain ⟨o, rfl, _, hG0⟩ := ty_refn h0 rfl rfl
    replace hG0 : G o = 8 := hG0
    refine ⟨rfl, ?_⟩
    change ab_wp ro (ab_Ev ro ab_codes d) 5 false none ab_k_X5_fail (fun o_1 => ∃ v w1, o_1 = (v, w1, 0, 0) ∧ ty_w sp_ G w1 ∧ (F5 G F) w1 ∧ ty_same G fz w w1 ∧ ck_res G none v ∧ ck_wit 0 0 [.ref o] v) (0, [some (.ref o)], [], w, 0, 0)
    refine ax_go 1 (y := (1, [some (.ref o)], [.ref o], w, 0, 0)) rfl trivial ?_
    obtain ⟨fs1, g2, -, q3⟩ := hx_obj hw hG0 (s := 8) rfl (by decide)
    obtain ⟨x4, e5, a6, b7⟩ := hx_fi (k := 7) (lo := (-2147483648)) (hi := 2147483647) q3 rfl
    refine hx_gf (l := 4) rfl rfl rfl g2 e5 ?_
    refine hx_k (l := 5) (m := (-1)) rfl rfl (by decide) (fun z8 h9 => ?_)
    refine hx_ic_ne (l := 8) rfl rfl (fun h10 => ?_) (fun h10 => ?_)
    · -- 16
      refine ax_go 1 (y := (17, [some (.ref o)], [.ref o], w, 0, 0)) rfl trivial ?_
      refine hx_k (l := 18) (m := 4) rfl rfl (by decide) (fun z11 h12 => ?_)
      refine hx_pf (q := (0, 0, 0, 0, (-2147483648), 2147483647)) (s := 8) (l := 21) (v := .int z11) rfl rfl rfl (by decide) rfl rfl rfl hw hG0 g2 trivial (ck_top_ok (G := G) z11) (fun w13 fs14 g15 e16 o17 n18 hw19 n20 => ?_)
      have hs21 := ty_same_tr (ty_same_rf w) (n20 fz (hx_ok hfz (by decide)))
      have hf22 : F5 G F w13 := by
        refine ⟨FT_put hf.1 g15 n18 (fun a b h1 h2 h3 => ?_), hF _ _ (n20 pr5 (by decide)) hf.2⟩
        obtain rfl := hx_inji h1 e16
        omega
      exact ax_ret rfl rfl trivial ⟨none, _, rfl, hw19, hf22, hs21, trivial, trivial⟩
    · -- 8
      refine ax_go 2 (y := (10, [some (.ref o)], [.ref o, .ref o], w, 0, 0)) rfl trivial ?_
      obtain ⟨x23, e24, a25, b26⟩ := hx_fi (k := 3) (lo := 0) (hi := 400) q3 rfl
      refine hx_gf (l := 13) rfl rfl rfl g2 e24 ?_
      refine hx_pf (q := (0, 0, 0, 0, (-2147483648), 2147483647)) (s := 8) (l := 16) (v := .int x23) rfl rfl rfl (by decide) rfl rfl rfl hw hG0 g2 trivial (ck_top_ok (G := G) x23) (fun w27 fs28 g29 e30 o31 n32 hw33 n34 => ?_)
      have hs35 := ty_same_tr (ty_same_rf w) (n34 fz (hx_ok hfz (by decide)))
      have hf36 := hFF _ _ (n34 pr_ (by decide)) hf
      refine ax_go 1 (y := (17, [some (.ref o)], [.ref o], w27, 0, 0)) rfl trivial ?_
      refine hx_k (l := 18) (m := 4) rfl rfl (by decide) (fun z37 h38 => ?_)
      refine hx_pf (q := (0, 0, 0, 0, (-2147483648), 2147483647)) (s := 8) (l := 21) (v := .int z37) rfl rfl rfl (by decide) rfl rfl rfl hw33 hG0 g29 trivial (ck_top_ok (G := G) z37) (fun w39 fs40 g41 e42 o43 n44 hw45 n46 => ?_)
      have hs47 := ty_same_tr hs35 (n46 fz (hx_ok hfz (by decide)))
      have hf48 : F5 G F w39 := by
        refine ⟨FT_put hf36.1 g41 n44 (fun a b h1 h2 h3 => ?_), hF _ _ (n46 pr5 (by decide)) hf36.2⟩
        obtain rfl := hx_inji h1 e42
        omega
      exact ax_ret rfl rfl trivial ⟨none, _, rfl, hw45, hf48, hs47, trivial, trivial⟩
def fb_X5_step : List (Nat × Nat) := [(19, 999), (32, 999), (33, 999), (34, 999), (35, 999), (44, 999), (45, 999), (1, 0), (18, 999), (2, 11), (2, 14), (1, 15), (54, 11), (4, 2), (7, 9), (30, 13), (30, 34), (30, 2), (30, 22), (30, 23), (30, 24), (30, 25), (46, 999), (47, 999), (30, 35), (30, 36), (7, 0), (24, 999), (37, 999), (30, 4), (30, 5), (30, 6), (30, 8), (30, 9), (30, 10), (30, 11), (30, 14), (30, 15), (30, 16), (30, 17), (30, 18), (30, 19), (30, 20), (30, 21), (39, 999), (40, 999), (41, 999), (30, 30), (30, 42), (30, 43), (30, 44), (1, 1), (1, 3), (1, 10), (1, 13), (8, 0), (30, 49), (2, 15), (8, 1)]
set_option maxHeartbeats 8000000 in
theorem h_X5_step {ro : ab_R} {G : Nat → Nat} {fz : List (Nat × Nat)} {F : ab_W → Prop} (hF : ∀ w w', ty_same G pr5 w w' → F w → F w') (hfz : ∀ q ∈ fz, q ∈ fb_X5_step) (d : Nat) : ck_ct ro sp_ G (F5 G F) fz (ab_Ev ro ab_codes (d + 2)) 61 [(2, 8, 0)] none 0 0 := by
  have hFF := F5_same hF
  refine ck_hand (d := d + 1) (by decide) (fun as w hw hf has => ?_)
  match as, has with
  | [v0], ⟨h0, _⟩ =>
    obtain ⟨o, rfl, _, hG0⟩ := ty_refn h0 rfl rfl
    replace hG0 : G o = 8 := hG0
    refine ⟨rfl, ?_⟩
    have ct88 : ∀ (nq : Nat) (w1 : ab_W) (at3 : Int32), ty_w sp_ G w1 → (F5 G F) w1 → ty_same G fz w w1 → (0 ≤ at3.toInt) → (at3.toInt ≤ 400) → (401 - at3.toInt).toNat < nq → ab_wp ro (ab_Ev ro ab_codes (d + 1)) 5 false none ab_k_X5_step (fun o_1 => ∃ v w1, o_1 = (v, w1, 0, 0) ∧ ty_w sp_ G w1 ∧ (F5 G F) w1 ∧ ty_same G fz w w1 ∧ ck_res G none v ∧ ck_wit 0 0 [.ref o] v) (88, [some (.ref o), some (.int at3)], [], w1, 0, 0) := by
      intro nq
      induction nq with
      | zero => intro w1 at3 hw4 hf5 hs6 i2 i3 hm; exact absurd hm (Nat.not_lt_zero _)
      | succ nq ih88 =>
        intro w1 at3 hw4 hf5 hs6 i2 i3 hm88
        refine ax_go 2 (y := (90, [some (.ref o), some (.int at3)], [.ref o, .int at3], w1, 0, 0)) rfl trivial ?_
        obtain ⟨fs7, g8, -, q9⟩ := hx_obj hw4 hG0 (s := 8) rfl (by decide)
        obtain ⟨x10, e11, a12, b13⟩ := hx_fi (k := 2) (lo := 0) (hi := 400) q9 rfl
        refine hx_gf (l := 93) rfl rfl rfl g8 e11 ?_
        refine hx_ic_ge (l := 96) rfl rfl (fun h14 => ?_) (fun h14 => ?_)
        · -- 126
          refine ax_go 2 (y := (128, [some (.ref o), some (.int at3)], [.int at3, .ref o], w1, 0, 0)) rfl trivial ?_
          refine hx_pf (q := (0, 0, 0, 0, 0, 400)) (s := 8) (l := 131) (v := .int at3) rfl rfl rfl (by decide) rfl rfl rfl hw4 hG0 g8 trivial (hx_ti (G := G) (lo := 0) (hi := 400) (by omega) (by omega)) (fun w15 fs16 g17 e18 o19 n20 hw21 n22 => ?_)
          have hs23 := ty_same_tr hs6 (n22 fz (hx_ok hfz (by decide)))
          have hf24 := hFF _ _ (n22 pr_ (by decide)) hf5
          exact ax_ret rfl rfl trivial ⟨none, _, rfl, hw21, hf24, hs23, trivial, trivial⟩
        · -- 96
          refine ax_go 1 (y := (97, [some (.ref o), some (.int at3)], [.ref o], w1, 0, 0)) rfl trivial ?_
          obtain ⟨x25, e26, a27, b28⟩ := hx_fi (k := 5) (lo := (-2147483648)) (hi := 2147483647) q9 rfl
          refine hx_gf (l := 100) rfl rfl rfl g8 e26 ?_
          refine hx_k (l := 101) (m := 3) rfl rfl (by decide) (fun z29 h30 => ?_)
          refine hx_ic_eq (l := 104) rfl rfl (fun h31 => ?_) (fun h31 => ?_)
          · -- 126
            refine ax_go 2 (y := (128, [some (.ref o), some (.int at3)], [.int at3, .ref o], w1, 0, 0)) rfl trivial ?_
            refine hx_pf (q := (0, 0, 0, 0, 0, 400)) (s := 8) (l := 131) (v := .int at3) rfl rfl rfl (by decide) rfl rfl rfl hw4 hG0 g8 trivial (hx_ti (G := G) (lo := 0) (hi := 400) (by omega) (by omega)) (fun w32 fs33 g34 e35 o36 n37 hw38 n39 => ?_)
            have hs40 := ty_same_tr hs6 (n39 fz (hx_ok hfz (by decide)))
            have hf41 := hFF _ _ (n39 pr_ (by decide)) hf5
            exact ax_ret rfl rfl trivial ⟨none, _, rfl, hw38, hf41, hs40, trivial, trivial⟩
          · -- 104
            refine ax_go 1 (y := (105, [some (.ref o), some (.int at3)], [.ref o], w1, 0, 0)) rfl trivial ?_
            obtain ⟨p42, e43, hG44⟩ := hx_fr (k := 0) (s := 24) q9 rfl
            refine hx_gf (l := 108) rfl rfl rfl g8 e43 ?_
            refine ax_go 1 (y := (109, [some (.ref o), some (.int at3)], [.int at3, .ref p42], w1, 0, 0)) rfl trivial ?_
            obtain ⟨f45, g46, r47⟩ := hx_row hw4 hG44 (s := 24) (kd := 0) (n := 400) rfl (by decide)
            refine hx_il (l := 110) rfl rfl g46 (by omega) (by omega) (fun z48 h49 => ?_)
            refine hx_pi (l := 113) (as := [.int z48]) rfl rfl rfl (h_X5_kindOf (fz := fz) hFF (fun q hq => (by decide +kernel : ∀ q ∈ fb_X5_step, q ∈ fb_X5_kindOf) q (hfz q hq)) (d + 0)) hw4 hf5 ⟨(ck_top_ok (G := G) z48), trivial⟩ trivial (fun w50 z55 hw51 hf52 m53 a56 b57 u58 => ?_)
            rw [u58.1]
            refine ax_go 1 (y := (114, [some (.ref o), some (.int at3)], [.ref o, .int z55], w1, 0, 0)) rfl trivial ?_
            refine hx_gf (l := 117) rfl rfl rfl g8 e26 ?_
            refine hx_ic_ne (l := 120) rfl rfl (fun h59 => ?_) (fun h59 => ?_)
            · -- 126
              refine ax_go 2 (y := (128, [some (.ref o), some (.int at3)], [.int at3, .ref o], w1, 0, 0)) rfl trivial ?_
              refine hx_pf (q := (0, 0, 0, 0, 0, 400)) (s := 8) (l := 131) (v := .int at3) rfl rfl rfl (by decide) rfl rfl rfl hw4 hG0 g8 trivial (hx_ti (G := G) (lo := 0) (hi := 400) (by omega) (by omega)) (fun w60 fs61 g62 e63 o64 n65 hw66 n67 => ?_)
              have hs68 := ty_same_tr hs6 (n67 fz (hx_ok hfz (by decide)))
              have hf69 := hFF _ _ (n67 pr_ (by decide)) hf5
              exact ax_ret rfl rfl trivial ⟨none, _, rfl, hw66, hf69, hs68, trivial, trivial⟩
            · -- 120
              refine hx_iinc (x := at3) (n := 1) (l := 123) rfl rfl rfl (Nat.le_of_ble_eq_true rfl) (by omega) (by omega) (by decide) (fun z70 h71 => ?_)
              change ab_wp ro (ab_Ev ro ab_codes (d + 1)) 5 false none ab_k_X5_step (fun o_1 => ∃ v w1, o_1 = (v, w1, 0, 0) ∧ ty_w sp_ G w1 ∧ (F5 G F) w1 ∧ ty_same G fz w w1 ∧ ck_res G none v ∧ ck_wit 0 0 [.ref o] v) (123, [some (.ref o), some (.int z70)], [], w1, 0, 0)
              refine ax_go 1 (y := (88, [some (.ref o), some (.int z70)], [], w1, 0, 0)) rfl trivial ?_
              exact ih88 w1 z70 hw4 hf5 hs6 (by omega) (by omega) (by omega)
    have ct22 : ∀ (nq : Nat) (w72 : ab_W) (ax : Int32), ty_w sp_ G w72 → (F5 G F) w72 → ty_same G fz w w72 → (0 ≤ ax.toInt) → (ax.toInt ≤ 400) → (401 - ax.toInt).toNat < nq → ab_wp ro (ab_Ev ro ab_codes (d + 1)) 5 false none ab_k_X5_step (fun o_1 => ∃ v w1, o_1 = (v, w1, 0, 0) ∧ ty_w sp_ G w1 ∧ (F5 G F) w1 ∧ ty_same G fz w w1 ∧ ck_res G none v ∧ ck_wit 0 0 [.ref o] v) (22, [some (.ref o), some (.int ax)], [], w72, 0, 0) := by
      intro nq
      induction nq with
      | zero => intro w72 ax hw75 hf76 hs77 i73 i74 hm; exact absurd hm (Nat.not_lt_zero _)
      | succ nq ih22 =>
        intro w72 ax hw75 hf76 hs77 i73 i74 hm22
        refine ax_go 2 (y := (24, [some (.ref o), some (.int ax)], [.ref o, .int ax], w72, 0, 0)) rfl trivial ?_
        obtain ⟨fs78, g79, -, q80⟩ := hx_obj hw75 hG0 (s := 8) rfl (by decide)
        obtain ⟨x81, e82, a83, b84⟩ := hx_fi (k := 2) (lo := 0) (hi := 400) q80 rfl
        refine hx_gf (l := 27) rfl rfl rfl g79 e82 ?_
        refine hx_ic_ge (l := 30) rfl rfl (fun h85 => ?_) (fun h85 => ?_)
        · -- 47
          refine ax_go 2 (y := (49, [some (.ref o), some (.int ax)], [.int ax, .ref o], w72, 0, 0)) rfl trivial ?_
          refine hx_pf (q := (0, 0, 0, 0, 0, 400)) (s := 8) (l := 52) (v := .int ax) rfl rfl rfl (by decide) rfl rfl rfl hw75 hG0 g79 trivial (hx_ti (G := G) (lo := 0) (hi := 400) (by omega) (by omega)) (fun w86 fs87 g88 e89 o90 n91 hw92 n93 => ?_)
          have hs94 := ty_same_tr hs77 (n93 fz (hx_ok hfz (by decide)))
          have hf95 := hF _ _ (n93 pr5 (by decide)) hf76.2
          refine ax_go 3 (y := (55, [some (.ref o), some (.int ax)], [.ref o, .int ax, .ref o], w86, 0, 0)) rfl trivial ?_
          refine hx_gf (l := 58) rfl rfl rfl g88 ((o90 2 (by decide)).trans e82) ?_
          refine hx_ic_ge (l := 61) rfl rfl (fun h96 => ?_) (fun h96 => ?_)
          · -- 73
            refine hx_k (l := 74) (m := 0) rfl rfl (by decide) (fun z97 h98 => ?_)
            refine hx_pf (q := (0, 0, 0, 0, (-2147483648), 2147483647)) (s := 8) (l := 77) (v := .int z97) rfl rfl rfl (by decide) rfl rfl rfl hw92 hG0 g88 trivial (ck_top_ok (G := G) z97) (fun w99 fs100 g101 e102 o103 n104 hw105 n106 => ?_)
            have hs107 := ty_same_tr hs94 (n106 fz (hx_ok hfz (by decide)))
            have hf108 : F5 G F w99 := by
              refine ⟨FT_put hf76.1 g101 (fun j hj => (n104 j hj).trans (n91 j hj)) (fun a b h1 h2 h3 => ?_), hF _ _ (n106 pr5 (by decide)) hf95⟩
              obtain rfl := hx_inji h1 e102
              obtain rfl := hx_inji h2 ((o103 3 (by decide)).trans e89)
              omega
            refine ax_go 2 (y := (79, [some (.ref o), some (.int ax)], [.ref o, .int ax], w99, 0, 0)) rfl trivial ?_
            refine hx_gf (l := 82) rfl rfl rfl g101 ((o103 2 (by decide)).trans ((o90 2 (by decide)).trans e82)) ?_
            refine hx_ic_ge (l := 85) rfl rfl (fun h109 => ?_) (fun h109 => ?_)
            · -- 88
              exact ct88 _ w99 ax hw105 hf108 hs107 (by omega) (by omega) (Nat.lt_succ_self _)
            · -- 85
              refine hx_iinc (x := ax) (n := 1) (l := 88) rfl rfl rfl (Nat.le_of_ble_eq_true rfl) (by omega) (by omega) (by decide) (fun z110 h111 => ?_)
              change ab_wp ro (ab_Ev ro ab_codes (d + 1)) 5 false none ab_k_X5_step (fun o_1 => ∃ v w1, o_1 = (v, w1, 0, 0) ∧ ty_w sp_ G w1 ∧ (F5 G F) w1 ∧ ty_same G fz w w1 ∧ ck_res G none v ∧ ck_wit 0 0 [.ref o] v) (88, [some (.ref o), some (.int z110)], [], w99, 0, 0)
              exact ct88 _ w99 z110 hw105 hf108 hs107 (by omega) (by omega) (Nat.lt_succ_self _)
          · -- 61
            refine ax_go 1 (y := (62, [some (.ref o), some (.int ax)], [.ref o, .ref o], w86, 0, 0)) rfl trivial ?_
            have q112 := hx_oq hw92 g88 hG0 (s := 8) rfl
            obtain ⟨p113, e114, hG115⟩ := hx_fr (k := 0) (s := 24) q112 rfl
            refine hx_gf (l := 65) rfl rfl rfl g88 e114 ?_
            refine ax_go 1 (y := (66, [some (.ref o), some (.int ax)], [.int ax, .ref p113, .ref o], w86, 0, 0)) rfl trivial ?_
            obtain ⟨f116, g117, r118⟩ := hx_row hw92 hG115 (s := 24) (kd := 0) (n := 400) rfl (by decide)
            refine hx_il (l := 67) rfl rfl g117 (by omega) (by omega) (fun z119 h120 => ?_)
            refine hx_pi (l := 70) (as := [.int z119]) rfl rfl rfl (h_X5_kindOf (fz := fz) (fun w w' h hf => hF w w' (ty_same_sub h (by decide)) hf) (fun q hq => (by decide +kernel : ∀ q ∈ fb_X5_step, q ∈ fb_X5_kindOf) q (hfz q hq)) (d + 0)) hw92 hf95 ⟨(ck_top_ok (G := G) z119), trivial⟩ trivial (fun w121 z126 hw122 hf123 m124 a127 b128 u129 => ?_)
            rw [u129.1]
            refine ax_go 1 (y := (74, [some (.ref o), some (.int ax)], [.int z126, .ref o], w86, 0, 0)) rfl trivial ?_
            refine hx_pf (q := (0, 0, 0, 0, (-2147483648), 2147483647)) (s := 8) (l := 77) (v := .int z126) rfl rfl rfl (by decide) rfl rfl rfl hw92 hG0 g88 trivial (ck_top_ok (G := G) z126) (fun w130 fs131 g132 e133 o134 n135 hw136 n137 => ?_)
            have hs138 := ty_same_tr hs94 (n137 fz (hx_ok hfz (by decide)))
            have hf139 : F5 G F w130 := by
              refine ⟨FT_put hf76.1 g132 (fun j hj => (n135 j hj).trans (n91 j hj)) (fun a b h1 h2 h3 => ?_), hF _ _ (n137 pr5 (by decide)) hf95⟩
              obtain rfl := hx_inji h1 e133
              obtain rfl := hx_inji h2 ((o134 3 (by decide)).trans e89)
              omega
            refine ax_go 2 (y := (79, [some (.ref o), some (.int ax)], [.ref o, .int ax], w130, 0, 0)) rfl trivial ?_
            refine hx_gf (l := 82) rfl rfl rfl g132 ((o134 2 (by decide)).trans ((o90 2 (by decide)).trans e82)) ?_
            refine hx_ic_ge (l := 85) rfl rfl (fun h140 => ?_) (fun h140 => ?_)
            · -- 88
              exact ct88 _ w130 ax hw136 hf139 hs138 (by omega) (by omega) (Nat.lt_succ_self _)
            · -- 85
              refine hx_iinc (x := ax) (n := 1) (l := 88) rfl rfl rfl (Nat.le_of_ble_eq_true rfl) (by omega) (by omega) (by decide) (fun z141 h142 => ?_)
              change ab_wp ro (ab_Ev ro ab_codes (d + 1)) 5 false none ab_k_X5_step (fun o_1 => ∃ v w1, o_1 = (v, w1, 0, 0) ∧ ty_w sp_ G w1 ∧ (F5 G F) w1 ∧ ty_same G fz w w1 ∧ ck_res G none v ∧ ck_wit 0 0 [.ref o] v) (88, [some (.ref o), some (.int z141)], [], w130, 0, 0)
              exact ct88 _ w130 z141 hw136 hf139 hs138 (by omega) (by omega) (Nat.lt_succ_self _)
        · -- 30
          refine ax_go 1 (y := (31, [some (.ref o), some (.int ax)], [.ref o], w72, 0, 0)) rfl trivial ?_
          obtain ⟨p143, e144, hG145⟩ := hx_fr (k := 0) (s := 24) q80 rfl
          refine hx_gf (l := 34) rfl rfl rfl g79 e144 ?_
          refine ax_go 1 (y := (35, [some (.ref o), some (.int ax)], [.int ax, .ref p143], w72, 0, 0)) rfl trivial ?_
          obtain ⟨f146, g147, r148⟩ := hx_row hw75 hG145 (s := 24) (kd := 0) (n := 400) rfl (by decide)
          refine hx_il (l := 36) rfl rfl g147 (by omega) (by omega) (fun z149 h150 => ?_)
          refine hx_k (l := 38) (m := 32) rfl rfl (by decide) (fun z151 h152 => ?_)
          refine hx_ic_ne (l := 41) rfl rfl (fun h153 => ?_) (fun h153 => ?_)
          · -- 47
            refine ax_go 2 (y := (49, [some (.ref o), some (.int ax)], [.int ax, .ref o], w72, 0, 0)) rfl trivial ?_
            refine hx_pf (q := (0, 0, 0, 0, 0, 400)) (s := 8) (l := 52) (v := .int ax) rfl rfl rfl (by decide) rfl rfl rfl hw75 hG0 g79 trivial (hx_ti (G := G) (lo := 0) (hi := 400) (by omega) (by omega)) (fun w154 fs155 g156 e157 o158 n159 hw160 n161 => ?_)
            have hs162 := ty_same_tr hs77 (n161 fz (hx_ok hfz (by decide)))
            have hf163 := hF _ _ (n161 pr5 (by decide)) hf76.2
            refine ax_go 3 (y := (55, [some (.ref o), some (.int ax)], [.ref o, .int ax, .ref o], w154, 0, 0)) rfl trivial ?_
            refine hx_gf (l := 58) rfl rfl rfl g156 ((o158 2 (by decide)).trans e82) ?_
            refine hx_ic_ge (l := 61) rfl rfl (fun h164 => ?_) (fun h164 => ?_)
            · -- 73
              refine hx_k (l := 74) (m := 0) rfl rfl (by decide) (fun z165 h166 => ?_)
              refine hx_pf (q := (0, 0, 0, 0, (-2147483648), 2147483647)) (s := 8) (l := 77) (v := .int z165) rfl rfl rfl (by decide) rfl rfl rfl hw160 hG0 g156 trivial (ck_top_ok (G := G) z165) (fun w167 fs168 g169 e170 o171 n172 hw173 n174 => ?_)
              have hs175 := ty_same_tr hs162 (n174 fz (hx_ok hfz (by decide)))
              have hf176 : F5 G F w167 := by
                refine ⟨FT_put hf76.1 g169 (fun j hj => (n172 j hj).trans (n159 j hj)) (fun a b h1 h2 h3 => ?_), hF _ _ (n174 pr5 (by decide)) hf163⟩
                obtain rfl := hx_inji h1 e170
                obtain rfl := hx_inji h2 ((o171 3 (by decide)).trans e157)
                omega
              refine ax_go 2 (y := (79, [some (.ref o), some (.int ax)], [.ref o, .int ax], w167, 0, 0)) rfl trivial ?_
              refine hx_gf (l := 82) rfl rfl rfl g169 ((o171 2 (by decide)).trans ((o158 2 (by decide)).trans e82)) ?_
              refine hx_ic_ge (l := 85) rfl rfl (fun h177 => ?_) (fun h177 => ?_)
              · -- 88
                exact ct88 _ w167 ax hw173 hf176 hs175 (by omega) (by omega) (Nat.lt_succ_self _)
              · -- 85
                refine hx_iinc (x := ax) (n := 1) (l := 88) rfl rfl rfl (Nat.le_of_ble_eq_true rfl) (by omega) (by omega) (by decide) (fun z178 h179 => ?_)
                change ab_wp ro (ab_Ev ro ab_codes (d + 1)) 5 false none ab_k_X5_step (fun o_1 => ∃ v w1, o_1 = (v, w1, 0, 0) ∧ ty_w sp_ G w1 ∧ (F5 G F) w1 ∧ ty_same G fz w w1 ∧ ck_res G none v ∧ ck_wit 0 0 [.ref o] v) (88, [some (.ref o), some (.int z178)], [], w167, 0, 0)
                exact ct88 _ w167 z178 hw173 hf176 hs175 (by omega) (by omega) (Nat.lt_succ_self _)
            · -- 61
              refine ax_go 1 (y := (62, [some (.ref o), some (.int ax)], [.ref o, .ref o], w154, 0, 0)) rfl trivial ?_
              refine hx_gf (l := 65) rfl rfl rfl g156 ((o158 0 (by decide)).trans e144) ?_
              refine ax_go 1 (y := (66, [some (.ref o), some (.int ax)], [.int ax, .ref p143, .ref o], w154, 0, 0)) rfl trivial ?_
              refine hx_il (l := 67) rfl rfl ((n159 _ (hx_ne hG145 hG0 (by decide))).trans g147) (by omega) (by omega) (fun z180 h181 => ?_)
              refine hx_pi (l := 70) (as := [.int z180]) rfl rfl rfl (h_X5_kindOf (fz := fz) (fun w w' h hf => hF w w' (ty_same_sub h (by decide)) hf) (fun q hq => (by decide +kernel : ∀ q ∈ fb_X5_step, q ∈ fb_X5_kindOf) q (hfz q hq)) (d + 0)) hw160 hf163 ⟨(ck_top_ok (G := G) z180), trivial⟩ trivial (fun w182 z187 hw183 hf184 m185 a188 b189 u190 => ?_)
              rw [u190.1]
              refine ax_go 1 (y := (74, [some (.ref o), some (.int ax)], [.int z187, .ref o], w154, 0, 0)) rfl trivial ?_
              refine hx_pf (q := (0, 0, 0, 0, (-2147483648), 2147483647)) (s := 8) (l := 77) (v := .int z187) rfl rfl rfl (by decide) rfl rfl rfl hw160 hG0 g156 trivial (ck_top_ok (G := G) z187) (fun w191 fs192 g193 e194 o195 n196 hw197 n198 => ?_)
              have hs199 := ty_same_tr hs162 (n198 fz (hx_ok hfz (by decide)))
              have hf200 : F5 G F w191 := by
                refine ⟨FT_put hf76.1 g193 (fun j hj => (n196 j hj).trans (n159 j hj)) (fun a b h1 h2 h3 => ?_), hF _ _ (n198 pr5 (by decide)) hf163⟩
                obtain rfl := hx_inji h1 e194
                obtain rfl := hx_inji h2 ((o195 3 (by decide)).trans e157)
                omega
              refine ax_go 2 (y := (79, [some (.ref o), some (.int ax)], [.ref o, .int ax], w191, 0, 0)) rfl trivial ?_
              refine hx_gf (l := 82) rfl rfl rfl g193 ((o195 2 (by decide)).trans ((o158 2 (by decide)).trans e82)) ?_
              refine hx_ic_ge (l := 85) rfl rfl (fun h201 => ?_) (fun h201 => ?_)
              · -- 88
                exact ct88 _ w191 ax hw197 hf200 hs199 (by omega) (by omega) (Nat.lt_succ_self _)
              · -- 85
                refine hx_iinc (x := ax) (n := 1) (l := 88) rfl rfl rfl (Nat.le_of_ble_eq_true rfl) (by omega) (by omega) (by decide) (fun z202 h203 => ?_)
                change ab_wp ro (ab_Ev ro ab_codes (d + 1)) 5 false none ab_k_X5_step (fun o_1 => ∃ v w1, o_1 = (v, w1, 0, 0) ∧ ty_w sp_ G w1 ∧ (F5 G F) w1 ∧ ty_same G fz w w1 ∧ ck_res G none v ∧ ck_wit 0 0 [.ref o] v) (88, [some (.ref o), some (.int z202)], [], w191, 0, 0)
                exact ct88 _ w191 z202 hw197 hf200 hs199 (by omega) (by omega) (Nat.lt_succ_self _)
          · -- 41
            refine hx_iinc (x := ax) (n := 1) (l := 44) rfl rfl rfl (Nat.le_of_ble_eq_true rfl) (by omega) (by omega) (by decide) (fun z204 h205 => ?_)
            change ab_wp ro (ab_Ev ro ab_codes (d + 1)) 5 false none ab_k_X5_step (fun o_1 => ∃ v w1, o_1 = (v, w1, 0, 0) ∧ ty_w sp_ G w1 ∧ (F5 G F) w1 ∧ ty_same G fz w w1 ∧ ck_res G none v ∧ ck_wit 0 0 [.ref o] v) (44, [some (.ref o), some (.int z204)], [], w72, 0, 0)
            refine ax_go 1 (y := (22, [some (.ref o), some (.int z204)], [], w72, 0, 0)) rfl trivial ?_
            exact ih22 w72 z204 hw75 hf76 hs77 (by omega) (by omega) (by omega)
    change ab_wp ro (ab_Ev ro ab_codes (d + 1)) 5 false none ab_k_X5_step (fun o_1 => ∃ v w1, o_1 = (v, w1, 0, 0) ∧ ty_w sp_ G w1 ∧ (F5 G F) w1 ∧ ty_same G fz w w1 ∧ ck_res G none v ∧ ck_wit 0 0 [.ref o] v) (0, [some (.ref o), none], [], w, 0, 0)
    refine ax_go 1 (y := (1, [some (.ref o), none], [.ref o], w, 0, 0)) rfl trivial ?_
    obtain ⟨fs206, g207, -, q208⟩ := hx_obj hw hG0 (s := 8) rfl (by decide)
    obtain ⟨x209, e210, a211, b212⟩ := hx_fi (k := 5) (lo := (-2147483648)) (hi := 2147483647) q208 rfl
    refine hx_gf (l := 4) rfl rfl rfl g207 e210 ?_
    refine hx_k (l := 5) (m := 4) rfl rfl (by decide) (fun z213 h214 => ?_)
    refine hx_ic_ne (l := 8) rfl rfl (fun h215 => ?_) (fun h215 => ?_)
    · -- 17
      refine ax_go 1 (y := (18, [some (.ref o), none], [.ref o], w, 0, 0)) rfl trivial ?_
      obtain ⟨x216, e217, a218, b219⟩ := hx_fi (k := 4) (lo := 0) (hi := 400) q208 rfl
      refine hx_gf (l := 21) rfl rfl rfl g207 e217 ?_
      refine ax_go 1 (y := (22, [some (.ref o), some (.int x216)], [], w, 0, 0)) rfl trivial ?_
      exact ct22 _ w x216 hw hf (ty_same_rf w) (by omega) (by omega) (Nat.lt_succ_self _)
    · -- 8
      refine ax_go 1 (y := (9, [some (.ref o), none], [.ref o], w, 0, 0)) rfl trivial ?_
      obtain ⟨x220, e221, a222, b223⟩ := hx_fi (k := 7) (lo := (-2147483648)) (hi := 2147483647) q208 rfl
      refine hx_gf (l := 12) rfl rfl rfl g207 e221 ?_
      refine hx_k (l := 13) (m := (-1)) rfl rfl (by decide) (fun z224 h225 => ?_)
      refine hx_ic_eq (l := 16) rfl rfl (fun h226 => ?_) (fun h226 => ?_)
      · -- 17
        refine ax_go 1 (y := (18, [some (.ref o), none], [.ref o], w, 0, 0)) rfl trivial ?_
        obtain ⟨x227, e228, a229, b230⟩ := hx_fi (k := 4) (lo := 0) (hi := 400) q208 rfl
        refine hx_gf (l := 21) rfl rfl rfl g207 e228 ?_
        refine ax_go 1 (y := (22, [some (.ref o), some (.int x227)], [], w, 0, 0)) rfl trivial ?_
        exact ct22 _ w x227 hw hf (ty_same_rf w) (by omega) (by omega) (Nat.lt_succ_self _)
      · -- 16
        exact ax_ret rfl rfl trivial ⟨none, _, rfl, hw, hf, (ty_same_rf w), trivial, trivial⟩
def fb_X3_isAsHeard : List (Nat × Nat) := [(8, 3), (8, 5), (19, 999), (32, 999), (33, 999), (34, 999), (35, 999), (44, 999), (45, 999), (1, 0), (18, 999), (2, 11), (2, 14), (1, 15), (54, 11), (4, 2), (7, 9), (30, 13), (30, 34), (30, 2), (30, 22), (30, 23), (30, 24), (30, 25), (46, 999), (47, 999), (30, 35), (30, 36), (7, 0), (24, 999), (37, 999), (30, 4), (30, 5), (30, 6), (30, 8), (30, 9), (30, 10), (30, 11), (30, 14), (30, 15), (30, 16), (30, 17), (30, 18), (30, 19), (30, 20), (30, 21), (39, 999), (40, 999), (41, 999), (30, 30), (30, 42), (30, 43), (30, 44), (1, 1), (1, 3), (1, 10), (1, 13), (8, 0), (30, 49), (2, 15), (8, 1)]
set_option maxHeartbeats 8000000 in
theorem h_X3_isAsHeard {ro : ab_R} {G : Nat → Nat} {fz : List (Nat × Nat)} {F : ab_W → Prop} (hF : ∀ w w', ty_same G pr_ w w' → F w → F w') (hfz : ∀ q ∈ fz, q ∈ fb_X3_isAsHeard) (d : Nat) : ck_ct ro sp_ G F fz (ab_Ev ro ab_codes (d + 2)) 29 [(2, 7, 0), (2, 2, 0)] (some (0, 0, 1)) 0 0 := by
  refine ck_hand (d := d + 1) (by decide) (fun as w hw hf has => ?_)
  match as, has with
  | [v0, v1], ⟨h0, h1, _⟩ =>
    obtain ⟨o, rfl, _, hG0⟩ := ty_refn h0 rfl rfl
    replace hG0 : G o = 7 := hG0
    obtain ⟨la, rfl, _, hG1⟩ := ty_refn h1 rfl rfl
    replace hG1 : G la = 2 := hG1
    refine ⟨rfl, ?_⟩
    have ct2 : ∀ (nq : Nat) (w1 : ab_W) (h : Int32) (u3 : Option Int32), ty_w sp_ G w1 → F w1 → ty_same G fz w w1 → (0 ≤ h.toInt) → (h.toInt ≤ 8) → (9 - h.toInt).toNat < nq → ab_wp ro (ab_Ev ro ab_codes (d + 1)) 3 false (some .boolean) ab_k_X3_isAsHeard (fun o_1 => ∃ v w1, o_1 = (v, w1, 0, 0) ∧ ty_w sp_ G w1 ∧ F w1 ∧ ty_same G fz w w1 ∧ ck_res G (some (0, 0, 1)) v ∧ ck_wit 0 0 [.ref o, .ref la] v) (2, [some (.ref o), some (.ref la), some (.int h), (u3.map Value.int)], [], w1, 0, 0) := by
      intro nq
      induction nq with
      | zero => intro w1 h u3 hw4 hf5 hs6 i2 i3 hm; exact absurd hm (Nat.not_lt_zero _)
      | succ nq ih2 =>
        intro w1 h u3 hw4 hf5 hs6 i2 i3 hm2
        refine ax_go 2 (y := (4, [some (.ref o), some (.ref la), some (.int h), (u3.map Value.int)], [.ref la, .int h], w1, 0, 0)) rfl trivial ?_
        obtain ⟨fs7, g8, -, q9⟩ := hx_obj hw4 hG1 (s := 2) rfl (by decide)
        obtain ⟨x10, e11, a12, b13⟩ := hx_fi (k := 14) (lo := 0) (hi := 8) q9 rfl
        refine hx_gf (l := 7) rfl rfl rfl g8 e11 ?_
        refine hx_ic_ge (l := 10) rfl rfl (fun h14 => ?_) (fun h14 => ?_)
        · -- 54
          refine hx_k (l := 55) (m := 1) rfl rfl (by decide) (fun z15 h16 => ?_)
          exact ax_ret rfl rfl ⟨hx_01 (by omega) (by omega), trivial⟩ ⟨some (.int z15), _, rfl, hw4, hf5, hs6, (hx_ti (G := G) (lo := 0) (hi := 1) (by omega) (by omega)), trivial⟩
        · -- 10
          refine ax_go 1 (y := (11, [some (.ref o), some (.ref la), some (.int h), (u3.map Value.int)], [.int h], w1, 0, 0)) rfl trivial ?_
          refine hx_k (l := 13) (m := 8) rfl rfl (by decide) (fun z17 h18 => ?_)
          refine hx_ic_ge (l := 16) rfl rfl (fun h19 => ?_) (fun h19 => ?_)
          · -- 54
            refine hx_k (l := 55) (m := 1) rfl rfl (by decide) (fun z20 h21 => ?_)
            exact ax_ret rfl rfl ⟨hx_01 (by omega) (by omega), trivial⟩ ⟨some (.int z20), _, rfl, hw4, hf5, hs6, (hx_ti (G := G) (lo := 0) (hi := 1) (by omega) (by omega)), trivial⟩
          · -- 16
            refine ax_go 1 (y := (17, [some (.ref o), some (.ref la), some (.int h), (u3.map Value.int)], [.ref la], w1, 0, 0)) rfl trivial ?_
            obtain ⟨p22, e23, hG24⟩ := hx_fr (k := 8) (s := 14) q9 rfl
            refine hx_gf (l := 20) rfl rfl rfl g8 e23 ?_
            refine ax_go 1 (y := (21, [some (.ref o), some (.ref la), some (.int h), (u3.map Value.int)], [.int h, .ref p22], w1, 0, 0)) rfl trivial ?_
            obtain ⟨f25, g26, r27⟩ := hx_row hw4 hG24 (s := 14) (kd := 0) (n := 8) rfl (by decide)
            refine hx_il (l := 22) rfl rfl g26 (by omega) (by omega) (fun z28 h29 => ?_)
            refine ax_go 3 (y := (25, [some (.ref o), some (.ref la), some (.int h), some (.int z28)], [.int z28, .ref la], w1, 0, 0)) rfl trivial ?_
            refine hx_ci (l := 28) (as := [.ref la, .int z28]) rfl rfl (hx_iv (j := 5) (n := 1) (o := la) (r := []) rfl rfl g8 rfl) (h_X1_has0 (fz := fz) hF (fun q hq => (by decide +kernel : ∀ q ∈ fb_X3_isAsHeard, q ∈ fb_X1_has0) q (hfz q hq)) (d + 0)) hw4 hf5 ⟨(hx_tr (G := G) (s := 2) (b := 0) hG1 (by decide)), (ck_top_ok (G := G) z28), trivial⟩ (fun w30 z35 hw31 hf32 m33 a36 b37 u38 => ?_)
            have u39 : z35.toInt ≠ 0 → (0 : Int) ≤ z28.toInt ∧ z28.toInt ≤ 9 := fun hz => hx_wit (a := 1) (wf := 10000000001009) u38 rfl hz
            have hs34 := ty_same_tr hs6 m33
            refine hx_if_eq (l := 31) rfl rfl (fun h40 => ?_) (fun h40 => ?_)
            · -- 46
              refine hx_k (l := 47) (m := 0) rfl rfl (by decide) (fun z41 h42 => ?_)
              exact ax_ret rfl rfl ⟨hx_01 (by omega) (by omega), trivial⟩ ⟨some (.int z41), _, rfl, hw31, hf32, hs34, (hx_ti (G := G) (lo := 0) (hi := 1) (by omega) (by omega)), trivial⟩
            · -- 31
              refine ax_go 1 (y := (32, [some (.ref o), some (.ref la), some (.int h), some (.int z28)], [.ref o], w30, 0, 0)) rfl trivial ?_
              obtain ⟨fs43, g44, -, q45⟩ := hx_obj hw31 hG0 (s := 7) rfl (by decide)
              obtain ⟨p46, e47, hG48⟩ := hx_fr (k := 2) (s := 11) q45 rfl
              refine hx_gf (l := 35) rfl rfl rfl g44 e47 ?_
              refine ax_go 1 (y := (36, [some (.ref o), some (.ref la), some (.int h), some (.int z28)], [.int z28, .ref p46], w30, 0, 0)) rfl trivial ?_
              obtain ⟨f49, g50, r51⟩ := hx_row hw31 hG48 (s := 11) (kd := 0) (n := 10) rfl (by decide)
              refine hx_il (l := 37) rfl rfl g50 (by omega) (by omega) (fun z52 h53 => ?_)
              refine ax_go 1 (y := (38, [some (.ref o), some (.ref la), some (.int h), some (.int z28)], [.ref la, .int z52], w30, 0, 0)) rfl trivial ?_
              obtain ⟨fs54, g55, -, q56⟩ := hx_obj hw31 hG1 (s := 2) rfl (by decide)
              obtain ⟨p57, e58, hG59⟩ := hx_fr (k := 9) (s := 14) q56 rfl
              refine hx_gf (l := 41) rfl rfl rfl g55 e58 ?_
              refine ax_go 1 (y := (42, [some (.ref o), some (.ref la), some (.int h), some (.int z28)], [.int h, .ref p57, .int z52], w30, 0, 0)) rfl trivial ?_
              obtain ⟨f60, g61, r62⟩ := hx_row hw31 hG59 (s := 14) (kd := 0) (n := 8) rfl (by decide)
              refine hx_il (l := 43) rfl rfl g61 (by omega) (by omega) (fun z63 h64 => ?_)
              refine hx_ic_eq (l := 46) rfl rfl (fun h65 => ?_) (fun h65 => ?_)
              · -- 48
                refine hx_iinc (x := h) (n := 1) (l := 51) rfl rfl rfl (Nat.le_of_ble_eq_true rfl) (by omega) (by omega) (by decide) (fun z66 h67 => ?_)
                change ab_wp ro (ab_Ev ro ab_codes (d + 1)) 3 false (some .boolean) ab_k_X3_isAsHeard (fun o_1 => ∃ v w1, o_1 = (v, w1, 0, 0) ∧ ty_w sp_ G w1 ∧ F w1 ∧ ty_same G fz w w1 ∧ ck_res G (some (0, 0, 1)) v ∧ ck_wit 0 0 [.ref o, .ref la] v) (51, [some (.ref o), some (.ref la), some (.int z66), some (.int z28)], [], w30, 0, 0)
                refine ax_go 1 (y := (2, [some (.ref o), some (.ref la), some (.int z66), some (.int z28)], [], w30, 0, 0)) rfl trivial ?_
                exact ih2 w30 z66 (some z28) hw31 hf32 hs34 (by omega) (by omega) (by omega)
              · -- 46
                refine hx_k (l := 47) (m := 0) rfl rfl (by decide) (fun z68 h69 => ?_)
                exact ax_ret rfl rfl ⟨hx_01 (by omega) (by omega), trivial⟩ ⟨some (.int z68), _, rfl, hw31, hf32, hs34, (hx_ti (G := G) (lo := 0) (hi := 1) (by omega) (by omega)), trivial⟩
    change ab_wp ro (ab_Ev ro ab_codes (d + 1)) 3 false (some .boolean) ab_k_X3_isAsHeard (fun o_1 => ∃ v w1, o_1 = (v, w1, 0, 0) ∧ ty_w sp_ G w1 ∧ F w1 ∧ ty_same G fz w w1 ∧ ck_res G (some (0, 0, 1)) v ∧ ck_wit 0 0 [.ref o, .ref la] v) (0, [some (.ref o), some (.ref la), none, none], [], w, 0, 0)
    refine hx_k (l := 1) (m := 0) rfl rfl (by decide) (fun z70 h71 => ?_)
    refine ax_go 1 (y := (2, [some (.ref o), some (.ref la), some (.int z70), none], [], w, 0, 0)) rfl trivial ?_
    exact ct2 _ w z70 none hw hf (ty_same_rf w) (by omega) (by omega) (Nat.lt_succ_self _)
def fb_X3_findHidden : List (Nat × Nat) := [(8, 3), (8, 5), (19, 999), (32, 999), (33, 999), (34, 999), (35, 999), (44, 999), (45, 999), (1, 0), (18, 999), (2, 11), (2, 14), (1, 15), (30, 13), (30, 34), (30, 2), (30, 22), (30, 23), (30, 24), (30, 25), (46, 999), (47, 999), (30, 35), (30, 36), (7, 0), (24, 999), (37, 999), (30, 4), (30, 5), (30, 6), (30, 8), (30, 9), (30, 10), (30, 11), (30, 14), (30, 15), (30, 16), (30, 17), (30, 18), (30, 19), (30, 20), (30, 21), (39, 999), (40, 999), (41, 999), (30, 30), (30, 42), (30, 43), (30, 44), (1, 1), (1, 3), (1, 10), (1, 13), (8, 0), (30, 49), (2, 15), (8, 1)]
set_option maxHeartbeats 8000000 in
theorem h_X3_findHidden {ro : ab_R} {G : Nat → Nat} {fz : List (Nat × Nat)} {F : ab_W → Prop} (hF : ∀ w w', ty_same G pr_ w w' → F w → F w') (hfz : ∀ q ∈ fz, q ∈ fb_X3_findHidden) (d : Nat) : ck_ct ro sp_ G F fz (ab_Ev ro ab_codes (d + 6)) 28 [(2, 7, 0), (2, 2, 0)] none 0 0 := by
  refine ck_hand (d := d + 5) (by decide) (fun as w hw hf has => ?_)
  match as, has with
  | [v0, v1], ⟨h0, h1, _⟩ =>
    obtain ⟨o, rfl, _, hG0⟩ := ty_refn h0 rfl rfl
    replace hG0 : G o = 7 := hG0
    obtain ⟨la, rfl, _, hG1⟩ := ty_refn h1 rfl rfl
    replace hG1 : G la = 2 := hG1
    refine ⟨rfl, ?_⟩
    have ct7 : ∀ (nq : Nat) (w1 : ab_W) (p : Int32) (hn : Int32), ty_w sp_ G w1 → F w1 → ty_same G fz w w1 → (hx_has w1 o 3 9 (.int hn)) → (0 ≤ p.toInt) → (p.toInt ≤ 10) → (hn.toInt ≤ p.toInt) → (11 - p.toInt).toNat < nq → ab_wp ro (ab_Ev ro ab_codes (d + 5)) 3 false none ab_k_X3_findHidden (fun o_1 => ∃ v w1, o_1 = (v, w1, 0, 0) ∧ ty_w sp_ G w1 ∧ F w1 ∧ ty_same G fz w w1 ∧ ck_res G none v ∧ ck_wit 0 0 [.ref o, .ref la] v) (7, [some (.ref o), some (.ref la), some (.int p)], [], w1, 0, 0) := by
      intro nq
      induction nq with
      | zero => intro w1 p hn hw6 hf7 hs8 hh2 i3 i4 i5 hm; exact absurd hm (Nat.not_lt_zero _)
      | succ nq ih7 =>
        intro w1 p hn hw6 hf7 hs8 hh2 i3 i4 i5 hm7
        obtain ⟨fs9, g10, e11⟩ := hh2
        have q12 := hx_oq hw6 g10 hG0 (s := 7) rfl
        obtain ⟨x13, e14, a15, b16⟩ := hx_fi (k := 9) (lo := 0) (hi := 10) q12 rfl
        obtain rfl : hn = x13 := hx_inji e11 e14
        have ct88 : ∀ (w17 : ab_W) (p2 : Int32) (hn2 : Int32), ty_w sp_ G w17 → F w17 → ty_same G fz w w17 → (hx_has w17 o 3 9 (.int hn2)) → (p2.toInt = p.toInt) → (p.toInt < 10) → (hn2.toInt ≤ p.toInt + 1) → ab_wp ro (ab_Ev ro ab_codes (d + 5)) 3 false none ab_k_X3_findHidden (fun o_1 => ∃ v w1, o_1 = (v, w1, 0, 0) ∧ ty_w sp_ G w1 ∧ F w1 ∧ ty_same G fz w w1 ∧ ck_res G none v ∧ ck_wit 0 0 [.ref o, .ref la] v) (88, [some (.ref o), some (.ref la), some (.int p2)], [], w17, 0, 0) := by
          intro w17 p2 hn2 hw22 hf23 hs24 hh18 i19 i20 i21
          obtain ⟨fs25, g26, e27⟩ := hh18
          have q28 := hx_oq hw22 g26 hG0 (s := 7) rfl
          obtain ⟨x29, e30, a31, b32⟩ := hx_fi (k := 9) (lo := 0) (hi := 10) q28 rfl
          obtain rfl : hn2 = x29 := hx_inji e27 e30
          refine hx_iinc (x := p2) (n := 1) (l := 91) rfl rfl rfl (Nat.le_of_ble_eq_true rfl) (by omega) (by omega) (by decide) (fun z33 h34 => ?_)
          change ab_wp ro (ab_Ev ro ab_codes (d + 5)) 3 false none ab_k_X3_findHidden (fun o_1 => ∃ v w1, o_1 = (v, w1, 0, 0) ∧ ty_w sp_ G w1 ∧ F w1 ∧ ty_same G fz w w1 ∧ ck_res G none v ∧ ck_wit 0 0 [.ref o, .ref la] v) (91, [some (.ref o), some (.ref la), some (.int z33)], [], w17, 0, 0)
          refine ax_go 1 (y := (7, [some (.ref o), some (.ref la), some (.int z33)], [], w17, 0, 0)) rfl trivial ?_
          exact ih7 w17 z33 hn2 hw22 hf23 hs24 ⟨_, g26, e27⟩ (by omega) (by omega) (by omega) (by omega)
        refine ax_go 2 (y := (9, [some (.ref o), some (.ref la), some (.int p)], [.ref la, .int p], w1, 0, 0)) rfl trivial ?_
        obtain ⟨fs35, g36, -, q37⟩ := hx_obj hw6 hG1 (s := 2) rfl (by decide)
        obtain ⟨x38, e39, a40, b41⟩ := hx_fi (k := 11) (lo := 0) (hi := 10) q37 rfl
        refine hx_gf (l := 12) rfl rfl rfl g36 e39 ?_
        refine hx_ic_ge (l := 15) rfl rfl (fun h42 => ?_) (fun h42 => ?_)
        · -- 94
          exact ax_ret rfl rfl trivial ⟨none, _, rfl, hw6, hf7, hs8, trivial, trivial⟩
        · -- 15
          refine ax_go 1 (y := (16, [some (.ref o), some (.ref la), some (.int p)], [.int p], w1, 0, 0)) rfl trivial ?_
          refine hx_k (l := 18) (m := 10) rfl rfl (by decide) (fun z43 h44 => ?_)
          refine hx_ic_ge (l := 21) rfl rfl (fun h45 => ?_) (fun h45 => ?_)
          · -- 94
            exact ax_ret rfl rfl trivial ⟨none, _, rfl, hw6, hf7, hs8, trivial, trivial⟩
          · -- 21
            refine ax_go 1 (y := (22, [some (.ref o), some (.ref la), some (.int p)], [.ref la], w1, 0, 0)) rfl trivial ?_
            obtain ⟨p46, e47, hG48⟩ := hx_fr (k := 2) (s := 11) q37 rfl
            refine hx_gf (l := 25) rfl rfl rfl g36 e47 ?_
            refine ax_go 1 (y := (26, [some (.ref o), some (.ref la), some (.int p)], [.int p, .ref p46], w1, 0, 0)) rfl trivial ?_
            obtain ⟨f49, g50, r51⟩ := hx_row hw6 hG48 (s := 11) (kd := 0) (n := 10) rfl (by decide)
            refine hx_il (l := 27) rfl rfl g50 (by omega) (by omega) (fun z52 h53 => ?_)
            refine hx_if_le (l := 30) rfl rfl (fun h54 => ?_) (fun h54 => ?_)
            · -- 88
              exact ct88 w1 p hn hw6 hf7 hs8 ⟨_, g10, e11⟩ (by omega) (by omega) (by omega)
            · -- 30
              refine ax_go 3 (y := (33, [some (.ref o), some (.ref la), some (.int p)], [.int p, .ref la, .ref o], w1, 0, 0)) rfl trivial ?_
              refine hx_k (l := 34) (m := (-1)) rfl rfl (by decide) (fun z55 h56 => ?_)
              refine hx_k (l := 35) (m := 0) rfl rfl (by decide) (fun z57 h58 => ?_)
              refine hx_ci (l := 38) (as := [.ref o, .ref la, .int p, .int z55, .int z57]) rfl rfl (hx_iv (j := 22) (n := 4) (o := o) (r := []) rfl rfl g10 rfl) (cc_X3_atOnce_0 (fz := ([(7, 9)] ++ fz)) hF (fun d => h_X7_part0 (fz := ([(7, 9)] ++ fz)) hF (hx_app (by decide +kernel) (fun q hq => (by decide +kernel : ∀ q ∈ fb_X3_findHidden, q ∈ fb_X7_part0) q (hfz q hq))) d) (fun d => h_X2_value0 (fz := ([(7, 9)] ++ fz)) hF (hx_app (by decide +kernel) (fun q hq => (by decide +kernel : ∀ q ∈ fb_X3_findHidden, q ∈ fb_X2_value0) q (hfz q hq))) d) (fun d => h_X1_has1 (fz := ([(7, 9)] ++ fz)) hF (hx_app (by decide +kernel) (fun q hq => (by decide +kernel : ∀ q ∈ fb_X3_findHidden, q ∈ fb_X1_has1) q (hfz q hq))) d) (hx_app (by decide +kernel) (fun q hq => (by decide +kernel : ∀ q ∈ fb_X3_findHidden, q ∈ fr_X3_atOnce_0) q (hfz q hq))) (d + 0)) hw6 hf7 ⟨(hx_tr (G := G) (s := 7) (b := 0) hG0 (by decide)), (hx_tr (G := G) (s := 2) (b := 0) hG1 (by decide)), (ck_top_ok (G := G) p), (ck_top_ok (G := G) z55), (ck_top_ok (G := G) z57), trivial⟩ (fun w59 z64 hw60 hf61 m62 a65 b66 u67 => ?_)
              have hs63 := ty_same_tr hs8 (hx_sapp m62)
              obtain ⟨fs68, g69, -, q70⟩ := hx_obj hw60 hG0 (s := 7) rfl (by decide)
              refine ax_go 3 (y := (41, [some (.ref o), some (.ref la), some (.int p)], [.ref la, .ref o], w59, 0, 0)) rfl trivial ?_
              refine hx_ci (l := 44) (as := [.ref o, .ref la]) rfl rfl (hx_iv (j := 29) (n := 1) (o := o) (r := []) rfl rfl g69 rfl) (h_X3_isAsHeard (fz := ([(7, 9)] ++ fz)) hF (hx_app (by decide +kernel) (fun q hq => (by decide +kernel : ∀ q ∈ fb_X3_findHidden, q ∈ fb_X3_isAsHeard) q (hfz q hq))) (d + 3)) hw60 hf61 ⟨(hx_tr (G := G) (s := 7) (b := 0) hG0 (by decide)), (hx_tr (G := G) (s := 2) (b := 0) hG1 (by decide)), trivial⟩ (fun w71 z76 hw72 hf73 m74 a77 b78 u79 => ?_)
              have hs75 := ty_same_tr hs63 (hx_sapp m74)
              obtain ⟨fs80, g81, -, q82⟩ := hx_obj hw72 hG0 (s := 7) rfl (by decide)
              refine hx_if_eq (l := 47) rfl rfl (fun h83 => ?_) (fun h83 => ?_)
              · -- 88
                exact ct88 w71 p hn hw72 hf73 hs75 ⟨_, g81, ((hx_kf m74 (hx_mem hG0 (by decide)) g69 g81).trans ((hx_kf m62 (hx_mem hG0 (by decide)) g10 g69).trans e11))⟩ (by omega) (by omega) (by omega)
              · -- 47
                refine ax_go 1 (y := (48, [some (.ref o), some (.ref la), some (.int p)], [.ref o], w71, 0, 0)) rfl trivial ?_
                obtain ⟨p84, e85, hG86⟩ := hx_fr (k := 2) (s := 11) q82 rfl
                refine hx_gf (l := 51) rfl rfl rfl g81 e85 ?_
                refine hx_k (l := 52) (m := 0) rfl rfl (by decide) (fun z87 h88 => ?_)
                refine ax_go 1 (y := (53, [some (.ref o), some (.ref la), some (.int p)], [.ref o, .int z87, .ref p84], w71, 0, 0)) rfl trivial ?_
                obtain ⟨p89, e90, hG91⟩ := hx_fr (k := 5) (s := 22) q82 rfl
                refine hx_gf (l := 56) rfl rfl rfl g81 e90 ?_
                refine ax_go 1 (y := (57, [some (.ref o), some (.ref la), some (.int p)], [.ref o, .ref p89, .int z87, .ref p84], w71, 0, 0)) rfl trivial ?_
                refine hx_gf (l := 60) rfl rfl rfl g81 ((hx_kf m74 (hx_mem hG0 (by decide)) g69 g81).trans ((hx_kf m62 (hx_mem hG0 (by decide)) g10 g69).trans e11)) ?_
                refine hx_k (l := 62) (m := 10) rfl rfl (by decide) (fun z92 h93 => ?_)
                refine hx_mul (l := 63) rfl rfl (fun z94 h95 => ?_)
                rw [h93] at h95
                replace h95 := h95 (by omega) (by omega)
                refine hx_k (l := 65) (m := 10) rfl rfl (by decide) (fun z96 h97 => ?_)
                obtain ⟨f98, g99, r100⟩ := hx_row hw72 hG86 (s := 11) (kd := 0) (n := 10) rfl (by decide)
                obtain ⟨f101, g102, r103⟩ := hx_row hw72 hG91 (s := 22) (kd := 0) (n := 100) rfl (by decide)
                refine hx_cpy (s := 22) (l := 68) rfl rfl (by decide) rfl rfl hw72 hG91 g99 g102 (by omega) (by omega) (by omega) (by omega) (by omega) (fun q hq => by cases hq) (fun w104 f105 g106 e107 n108 hw109 n110 => ?_)
                have hs111 := ty_same_tr hs75 (n110 fz (hx_ok hfz (by decide)))
                have hf112 := hF _ _ (n110 pr_ (by decide)) hf73
                refine ax_go 1 (y := (69, [some (.ref o), some (.ref la), some (.int p)], [.ref o], w104, 0, 0)) rfl trivial ?_
                obtain ⟨p113, e114, hG115⟩ := hx_fr (k := 8) (s := 11) q82 rfl
                refine hx_gf (l := 72) rfl rfl rfl ((n108 _ (hx_ne hG0 hG91 (by decide))).trans g81) e114 ?_
                refine ax_go 1 (y := (73, [some (.ref o), some (.ref la), some (.int p)], [.ref o, .ref p113], w104, 0, 0)) rfl trivial ?_
                refine hx_gf (l := 76) rfl rfl rfl ((n108 _ (hx_ne hG0 hG91 (by decide))).trans g81) ((hx_kf m74 (hx_mem hG0 (by decide)) g69 g81).trans ((hx_kf m62 (hx_mem hG0 (by decide)) g10 g69).trans e11)) ?_
                refine ax_go 1 (y := (77, [some (.ref o), some (.ref la), some (.int p)], [.int p, .int hn, .ref p113], w104, 0, 0)) rfl trivial ?_
                obtain ⟨f116, g117, r118⟩ := hx_row hw109 hG115 (s := 11) (kd := 0) (n := 10) rfl (by decide)
                refine hx_is (s := 11) (l := 78) rfl rfl rfl hw109 hG115 g117 (by omega) (by omega) hx_sg0 (fun w119 f120 g121 e122 o123 n124 hw125 n126 => ?_)
                have hs127 := ty_same_tr hs111 (n126 fz (hx_ok hfz (by decide)))
                have hf128 := hF _ _ (n126 pr_ (by decide)) hf112
                refine ax_go 2 (y := (80, [some (.ref o), some (.ref la), some (.int p)], [.ref o, .ref o], w119, 0, 0)) rfl trivial ?_
                refine hx_gf (l := 83) rfl rfl rfl ((n124 _ (hx_ne hG0 hG115 (by decide))).trans ((n108 _ (hx_ne hG0 hG91 (by decide))).trans g81)) ((hx_kf m74 (hx_mem hG0 (by decide)) g69 g81).trans ((hx_kf m62 (hx_mem hG0 (by decide)) g10 g69).trans e11)) ?_
                refine hx_k (l := 84) (m := 1) rfl rfl (by decide) (fun z129 h130 => ?_)
                refine hx_add (l := 85) rfl rfl (fun z131 h132 => ?_)
                replace h132 := h132 (by omega) (by omega)
                refine hx_pf (q := (0, 0, 0, 0, 0, 10)) (s := 7) (l := 88) (v := .int z131) rfl rfl rfl (by decide) rfl rfl rfl hw125 hG0 ((n124 _ (hx_ne hG0 hG115 (by decide))).trans ((n108 _ (hx_ne hG0 hG91 (by decide))).trans g81)) trivial (hx_ti (G := G) (lo := 0) (hi := 10) (by omega) (by omega)) (fun w133 fs134 g135 e136 o137 n138 hw139 n140 => ?_)
                have hs141 := ty_same_tr hs127 (n140 fz (hx_ok hfz (by decide)))
                have hf142 := hF _ _ (n140 pr_ (by decide)) hf128
                exact ct88 w133 p z131 hw139 hf142 hs141 ⟨_, g135, e136⟩ (by omega) (by omega) (by omega)
    change ab_wp ro (ab_Ev ro ab_codes (d + 5)) 3 false none ab_k_X3_findHidden (fun o_1 => ∃ v w1, o_1 = (v, w1, 0, 0) ∧ ty_w sp_ G w1 ∧ F w1 ∧ ty_same G fz w w1 ∧ ck_res G none v ∧ ck_wit 0 0 [.ref o, .ref la] v) (0, [some (.ref o), some (.ref la), none], [], w, 0, 0)
    refine ax_go 1 (y := (1, [some (.ref o), some (.ref la), none], [.ref o], w, 0, 0)) rfl trivial ?_
    refine hx_k (l := 2) (m := 0) rfl rfl (by decide) (fun z143 h144 => ?_)
    obtain ⟨fs145, g146, -, q147⟩ := hx_obj hw hG0 (s := 7) rfl (by decide)
    refine hx_pf (q := (0, 0, 0, 0, 0, 10)) (s := 7) (l := 5) (v := .int z143) rfl rfl rfl (by decide) rfl rfl rfl hw hG0 g146 trivial (hx_ti (G := G) (lo := 0) (hi := 10) (by omega) (by omega)) (fun w148 fs149 g150 e151 o152 n153 hw154 n155 => ?_)
    have hs156 := ty_same_tr (ty_same_rf w) (n155 fz (hx_ok hfz (by decide)))
    have hf157 := hF _ _ (n155 pr_ (by decide)) hf
    refine hx_k (l := 6) (m := 0) rfl rfl (by decide) (fun z158 h159 => ?_)
    refine ax_go 1 (y := (7, [some (.ref o), some (.ref la), some (.int z158)], [], w148, 0, 0)) rfl trivial ?_
    exact ct7 _ w148 z158 z143 hw154 hf157 hs156 ⟨_, g150, e151⟩ (by omega) (by omega) (by omega) (Nat.lt_succ_self _)
def fb_X3_drawnNext : List (Nat × Nat) := [(8, 3), (8, 5), (19, 999), (32, 999), (33, 999), (34, 999), (35, 999), (44, 999), (45, 999), (1, 0), (18, 999), (2, 11), (2, 14), (1, 15), (54, 11), (4, 2), (7, 9), (30, 13), (30, 34), (30, 2), (30, 22), (30, 23), (30, 24), (30, 25), (46, 999), (47, 999), (30, 35), (30, 36), (7, 0), (24, 999), (37, 999), (30, 4), (30, 5), (30, 6), (30, 8), (30, 9), (30, 10), (30, 11), (30, 14), (30, 15), (30, 16), (30, 17), (30, 18), (30, 19), (30, 20), (30, 21), (39, 999), (40, 999), (41, 999), (30, 30), (30, 42), (30, 43), (30, 44), (1, 1), (1, 3), (1, 10), (1, 13), (8, 0), (30, 49), (2, 15), (8, 1)]
set_option maxHeartbeats 8000000 in
theorem h_X3_drawnNext {ro : ab_R} {G : Nat → Nat} {fz : List (Nat × Nat)} {F : ab_W → Prop} (hF : ∀ w w', ty_same G pr_ w w' → F w → F w') (hfz : ∀ q ∈ fz, q ∈ fb_X3_drawnNext) (d : Nat) : ck_ct ro sp_ G F fz (ab_Ev ro ab_codes (d + 1)) 35 [(0, (-2147483648), 2147483647)] (some (0, (-2147483648), 2147483647)) 0 0 := by
  refine ck_hand (d := d + 0) (by decide) (fun as w hw hf has => ?_)
  match as, has with
  | [v0], ⟨h0, _⟩ =>
    obtain ⟨s0, rfl, hl0, hh0⟩ := ty_int h0 rfl
    replace hl0 : ((-2147483648) : Int) ≤ s0.toInt := hl0
    replace hh0 : s0.toInt ≤ 2147483647 := hh0
    refine ⟨rfl, ?_⟩
    change ab_wp ro (ab_Ev ro ab_codes d) 3 false (some .int) ab_k_X3_drawnNext (fun o_1 => ∃ v w1, o_1 = (v, w1, 0, 0) ∧ ty_w sp_ G w1 ∧ F w1 ∧ ty_same G fz w w1 ∧ ck_res G (some (0, (-2147483648), 2147483647)) v ∧ ck_wit 0 0 [.int s0] v) (0, [some (.int s0)], [], w, 0, 0)
    refine ax_go 1 (y := (1, [some (.int s0)], [.int s0], w, 0, 0)) rfl trivial ?_
    refine hx_anyl (l := 2) rfl rfl (fun z1 => ?_)
    refine hx_lk (l := 5) (m := 1103) rfl rfl (by decide) (fun z2 h3 => ?_)
    refine hx_anyl (l := 6) rfl rfl (fun z4 => ?_)
    refine hx_lk (l := 9) (m := 12345) rfl rfl (by decide) (fun z5 h6 => ?_)
    refine hx_anyl (l := 10) rfl rfl (fun z7 => ?_)
    refine hx_lk (l := 13) (m := 1000003) rfl rfl (by decide) (fun z8 h9 => ?_)
    refine hx_ldv (l := 14) rfl (by simp) rfl (by omega) (fun z10 => ?_)
    refine hx_any (l := 15) rfl rfl (fun z11 => ?_)
    exact ax_ret rfl rfl trivial ⟨some (.int z11), _, rfl, hw, hf, (ty_same_rf w), (ck_top_ok (G := G) z11), trivial⟩
def fb_X3_drawDays : List (Nat × Nat) := [(8, 3), (8, 5), (19, 999), (32, 999), (33, 999), (34, 999), (35, 999), (44, 999), (45, 999), (1, 0), (18, 999), (2, 11), (2, 14), (1, 15), (54, 11), (7, 9), (30, 13), (30, 34), (30, 2), (30, 22), (30, 23), (30, 24), (30, 25), (46, 999), (47, 999), (30, 35), (30, 36), (7, 0), (24, 999), (37, 999), (30, 4), (30, 5), (30, 6), (30, 8), (30, 9), (30, 10), (30, 11), (30, 14), (30, 15), (30, 16), (30, 17), (30, 18), (30, 19), (30, 20), (30, 21), (39, 999), (40, 999), (41, 999), (30, 30), (30, 42), (30, 43), (30, 44), (1, 1), (1, 3), (1, 10), (1, 13), (8, 0), (30, 49), (2, 15), (8, 1)]
set_option maxHeartbeats 8000000 in
theorem h_X3_drawDays {ro : ab_R} {G : Nat → Nat} {fz : List (Nat × Nat)} {F : ab_W → Prop} (hF : ∀ w w', ty_same G pr_ w w' → F w → F w') (hfz : ∀ q ∈ fz, q ∈ fb_X3_drawDays) (d : Nat) : ck_ct ro sp_ G F fz (ab_Ev ro ab_codes (d + 6)) 34 [(2, 7, 0), (2, 54, 0), (0, (-2147483648), 2147483647), (0, (-2147483648), 2147483647)] (some (0, (-2147483648), 2147483647)) 0 0 := by
  refine ck_hand (d := d + 5) (by decide) (fun as w hw hf has => ?_)
  match as, has with
  | [v0, v1, v2, v3], ⟨h0, h1, h2, h3, _⟩ =>
    obtain ⟨o, rfl, _, hG0⟩ := ty_refn h0 rfl rfl
    replace hG0 : G o = 7 := hG0
    obtain ⟨pg, rfl, _, hG1⟩ := ty_refn h1 rfl rfl
    replace hG1 : G pg = 54 := hG1
    obtain ⟨sd, rfl, hl2, hh2⟩ := ty_int h2 rfl
    replace hl2 : ((-2147483648) : Int) ≤ sd.toInt := hl2
    replace hh2 : sd.toInt ≤ 2147483647 := hh2
    obtain ⟨nn, rfl, hl3, hh3⟩ := ty_int h3 rfl
    replace hl3 : ((-2147483648) : Int) ≤ nn.toInt := hl3
    replace hh3 : nn.toInt ≤ 2147483647 := hh3
    refine ⟨rfl, ?_⟩
    have ct9 : ∀ (nq : Nat) (w1 : ab_W) (ts : Int32) (sv : Int32) (dy : Int32) (u7 : Option Int32) (u8 : Option Int32), ty_w sp_ G w1 → F w1 → ty_same G fz w w1 → (0 ≤ dy.toInt) → (2147483647 - dy.toInt).toNat < nq → ab_wp ro (ab_Ev ro ab_codes (d + 5)) 3 false (some .int) ab_k_X3_drawDays (fun o_1 => ∃ v w1, o_1 = (v, w1, 0, 0) ∧ ty_w sp_ G w1 ∧ F w1 ∧ ty_same G fz w w1 ∧ ck_res G (some (0, (-2147483648), 2147483647)) v ∧ ck_wit 0 0 [.ref o, .ref pg, .int sd, .int nn] v) (9, [some (.ref o), some (.ref pg), some (.int sd), some (.int nn), some (.int ts), some (.int sv), some (.int dy), (u7.map Value.int), (u8.map Value.int)], [], w1, 0, 0) := by
      intro nq
      induction nq with
      | zero => intro w1 ts sv dy u7 u8 hw3 hf4 hs5 i2 hm; exact absurd hm (Nat.not_lt_zero _)
      | succ nq ih9 =>
        intro w1 ts sv dy u7 u8 hw3 hf4 hs5 i2 hm9
        have ct107 : ∀ (w6 : ab_W) (ts2 : Int32) (sv2 : Int32) (dy2 : Int32) (p2 : Int32) (wh2 : Int32), ty_w sp_ G w6 → F w6 → ty_same G fz w w6 → (dy2.toInt = dy.toInt) → (dy.toInt < nn.toInt) → ab_wp ro (ab_Ev ro ab_codes (d + 5)) 3 false (some .int) ab_k_X3_drawDays (fun o_1 => ∃ v w1, o_1 = (v, w1, 0, 0) ∧ ty_w sp_ G w1 ∧ F w1 ∧ ty_same G fz w w1 ∧ ck_res G (some (0, (-2147483648), 2147483647)) v ∧ ck_wit 0 0 [.ref o, .ref pg, .int sd, .int nn] v) (107, [some (.ref o), some (.ref pg), some (.int sd), some (.int nn), some (.int ts2), some (.int sv2), some (.int dy2), some (.int p2), some (.int wh2)], [], w6, 0, 0) := by
          intro w6 ts2 sv2 dy2 p2 wh2 hw9 hf10 hs11 i7 i8
          refine ax_go 1 (y := (108, [some (.ref o), some (.ref pg), some (.int sd), some (.int nn), some (.int ts2), some (.int sv2), some (.int dy2), some (.int p2), some (.int wh2)], [.ref pg], w6, 0, 0)) rfl trivial ?_
          obtain ⟨fs12, g13, -, q14⟩ := hx_obj hw9 hG1 (s := 54) rfl (by decide)
          refine hx_ci (l := 111) (as := [.ref pg]) rfl rfl (hx_iv (j := 13) (n := 0) (o := pg) (r := []) rfl rfl g13 rfl) (h_X1_passDay0 (fz := fz) hF (fun q hq => (by decide +kernel : ∀ q ∈ fb_X3_drawDays, q ∈ fb_X1_passDay0) q (hfz q hq)) (d + 2)) hw9 hf10 ⟨(hx_tr (G := G) (s := 54) (b := 0) hG1 (by decide)), trivial⟩ (fun w15 z20 hw16 hf17 m18 a21 b22 u23 => ?_)
          have hs19 := ty_same_tr hs11 m18
          refine ax_go 3 (y := (115, [some (.ref o), some (.ref pg), some (.int sd), some (.int nn), some (.int ts2), some (.int sv2), some (.int dy2), some (.int p2), some (.int wh2)], [.ref pg, .int ts2], w15, 0, 0)) rfl trivial ?_
          obtain ⟨fs24, g25, -, q26⟩ := hx_obj hw16 hG1 (s := 54) rfl (by decide)
          obtain ⟨x27, e28, a29, b30⟩ := hx_fi (k := 17) (lo := (-2147483648)) (hi := 2147483647) q26 rfl
          refine hx_gf (l := 118) rfl rfl rfl g25 e28 ?_
          refine hx_add (l := 119) rfl rfl (fun z31 h32 => ?_)
          refine ax_go 1 (y := (121, [some (.ref o), some (.ref pg), some (.int sd), some (.int nn), some (.int z31), some (.int sv2), some (.int dy2), some (.int p2), some (.int wh2)], [], w15, 0, 0)) rfl trivial ?_
          refine hx_iinc (x := dy2) (n := 1) (l := 124) rfl rfl rfl (Nat.le_of_ble_eq_true rfl) (by omega) (by omega) (by decide) (fun z33 h34 => ?_)
          change ab_wp ro (ab_Ev ro ab_codes (d + 5)) 3 false (some .int) ab_k_X3_drawDays (fun o_1 => ∃ v w1, o_1 = (v, w1, 0, 0) ∧ ty_w sp_ G w1 ∧ F w1 ∧ ty_same G fz w w1 ∧ ck_res G (some (0, (-2147483648), 2147483647)) v ∧ ck_wit 0 0 [.ref o, .ref pg, .int sd, .int nn] v) (124, [some (.ref o), some (.ref pg), some (.int sd), some (.int nn), some (.int z31), some (.int sv2), some (.int z33), some (.int p2), some (.int wh2)], [], w15, 0, 0)
          refine ax_go 1 (y := (9, [some (.ref o), some (.ref pg), some (.int sd), some (.int nn), some (.int z31), some (.int sv2), some (.int z33), some (.int p2), some (.int wh2)], [], w15, 0, 0)) rfl trivial ?_
          exact ih9 w15 z31 sv2 z33 (some p2) (some wh2) hw16 hf17 hs19 (by omega) (by omega)
        refine ax_go 2 (y := (12, [some (.ref o), some (.ref pg), some (.int sd), some (.int nn), some (.int ts), some (.int sv), some (.int dy), (u7.map Value.int), (u8.map Value.int)], [.int nn, .int dy], w1, 0, 0)) rfl trivial ?_
        refine hx_ic_ge (l := 15) rfl rfl (fun h35 => ?_) (fun h35 => ?_)
        · -- 127
          refine ax_go 1 (y := (129, [some (.ref o), some (.ref pg), some (.int sd), some (.int nn), some (.int ts), some (.int sv), some (.int dy), (u7.map Value.int), (u8.map Value.int)], [.int ts], w1, 0, 0)) rfl trivial ?_
          exact ax_ret rfl rfl trivial ⟨some (.int ts), _, rfl, hw3, hf4, hs5, (ck_top_ok (G := G) ts), trivial⟩
        · -- 15
          refine ax_go 1 (y := (16, [some (.ref o), some (.ref pg), some (.int sd), some (.int nn), some (.int ts), some (.int sv), some (.int dy), (u7.map Value.int), (u8.map Value.int)], [.ref pg], w1, 0, 0)) rfl trivial ?_
          obtain ⟨fs36, g37, -, q38⟩ := hx_obj hw3 hG1 (s := 54) rfl (by decide)
          obtain ⟨p39, e40, hG41⟩ := hx_fr (k := 7) (s := 13) q38 rfl
          refine hx_gf (l := 19) rfl rfl rfl g37 e40 ?_
          refine hx_k (l := 20) (m := 0) rfl rfl (by decide) (fun z42 h43 => ?_)
          obtain ⟨f44, g45, r46⟩ := hx_row hw3 hG41 (s := 13) (kd := 0) (n := 4) rfl (by decide)
          refine hx_il (l := 21) rfl rfl g45 (by omega) (by omega) (fun z47 h48 => ?_)
          refine hx_k (l := 24) (m := 999) rfl rfl (by decide) (fun z49 h50 => ?_)
          refine hx_ic_ge (l := 27) rfl rfl (fun h51 => ?_) (fun h51 => ?_)
          · -- 127
            refine ax_go 1 (y := (129, [some (.ref o), some (.ref pg), some (.int sd), some (.int nn), some (.int ts), some (.int sv), some (.int dy), (u7.map Value.int), (u8.map Value.int)], [.int ts], w1, 0, 0)) rfl trivial ?_
            exact ax_ret rfl rfl trivial ⟨some (.int ts), _, rfl, hw3, hf4, hs5, (ck_top_ok (G := G) ts), trivial⟩
          · -- 27
            refine ax_go 1 (y := (28, [some (.ref o), some (.ref pg), some (.int sd), some (.int nn), some (.int ts), some (.int sv), some (.int dy), (u7.map Value.int), (u8.map Value.int)], [.ref pg], w1, 0, 0)) rfl trivial ?_
            obtain ⟨x52, e53, a54, b55⟩ := hx_fi (k := 11) (lo := 0) (hi := 10) q38 rfl
            refine hx_gf (l := 31) rfl rfl rfl g37 e53 ?_
            refine hx_if_le (l := 34) rfl rfl (fun h56 => ?_) (fun h56 => ?_)
            · -- 127
              refine ax_go 1 (y := (129, [some (.ref o), some (.ref pg), some (.int sd), some (.int nn), some (.int ts), some (.int sv), some (.int dy), (u7.map Value.int), (u8.map Value.int)], [.int ts], w1, 0, 0)) rfl trivial ?_
              exact ax_ret rfl rfl trivial ⟨some (.int ts), _, rfl, hw3, hf4, hs5, (ck_top_ok (G := G) ts), trivial⟩
            · -- 34
              refine ax_go 1 (y := (36, [some (.ref o), some (.ref pg), some (.int sd), some (.int nn), some (.int ts), some (.int sv), some (.int dy), (u7.map Value.int), (u8.map Value.int)], [.int sv], w1, 0, 0)) rfl trivial ?_
              refine hx_ci (l := 39) (as := [.int sv]) rfl rfl rfl (h_X3_drawnNext (fz := ([(54, 11)] ++ fz)) hF (hx_app (by decide +kernel) (fun q hq => (by decide +kernel : ∀ q ∈ fb_X3_drawDays, q ∈ fb_X3_drawnNext) q (hfz q hq))) (d + 4)) hw3 hf4 ⟨(ck_top_ok (G := G) sv), trivial⟩ (fun w57 z62 hw58 hf59 m60 a63 b64 u65 => ?_)
              have hs61 := ty_same_tr hs5 (hx_sapp m60)
              obtain ⟨fs66, g67, -, q68⟩ := hx_obj hw58 hG1 (s := 54) rfl (by decide)
              refine ax_go 3 (y := (44, [some (.ref o), some (.ref pg), some (.int sd), some (.int nn), some (.int ts), some (.int z62), some (.int dy), (u7.map Value.int), (u8.map Value.int)], [.ref pg, .int z62], w57, 0, 0)) rfl trivial ?_
              refine hx_gf (l := 47) rfl rfl rfl g67 ((hx_kf m60 (hx_mem hG1 (by decide)) g37 g67).trans e53) ?_
              refine hx_idv (l := 48) rfl (by simp) rfl (by omega) (fun z69 => ?_)
              refine ax_go 2 (y := (52, [some (.ref o), some (.ref pg), some (.int sd), some (.int nn), some (.int ts), some (.int z62), some (.int dy), some (.int z69), (u8.map Value.int)], [.int z62], w57, 0, 0)) rfl trivial ?_
              refine hx_ci (l := 55) (as := [.int z62]) rfl rfl rfl (h_X3_drawnNext (fz := ([(54, 11)] ++ fz)) hF (hx_app (by decide +kernel) (fun q hq => (by decide +kernel : ∀ q ∈ fb_X3_drawDays, q ∈ fb_X3_drawnNext) q (hfz q hq))) (d + 4)) hw58 hf59 ⟨(ck_top_ok (G := G) z62), trivial⟩ (fun w70 z75 hw71 hf72 m73 a76 b77 u78 => ?_)
              have hs74 := ty_same_tr hs61 (hx_sapp m73)
              obtain ⟨fs79, g80, -, q81⟩ := hx_obj hw71 hG1 (s := 54) rfl (by decide)
              refine ax_go 2 (y := (59, [some (.ref o), some (.ref pg), some (.int sd), some (.int nn), some (.int ts), some (.int z75), some (.int dy), some (.int z69), (u8.map Value.int)], [.int z75], w70, 0, 0)) rfl trivial ?_
              refine hx_k (l := 60) (m := 3) rfl rfl (by decide) (fun z82 h83 => ?_)
              refine hx_idv (l := 61) rfl (by simp) rfl (by omega) (fun z84 => ?_)
              refine ax_go 2 (y := (65, [some (.ref o), some (.ref pg), some (.int sd), some (.int nn), some (.int ts), some (.int z75), some (.int dy), some (.int z69), some (.int z84)], [.int z84], w70, 0, 0)) rfl trivial ?_
              refine hx_if_ne (l := 68) rfl rfl (fun h85 => ?_) (fun h85 => ?_)
              · -- 79
                refine ax_go 1 (y := (81, [some (.ref o), some (.ref pg), some (.int sd), some (.int nn), some (.int ts), some (.int z75), some (.int dy), some (.int z69), some (.int z84)], [.int z84], w70, 0, 0)) rfl trivial ?_
                refine hx_k (l := 82) (m := 1) rfl rfl (by decide) (fun z86 h87 => ?_)
                refine hx_ic_ne (l := 85) rfl rfl (fun h88 => ?_) (fun h88 => ?_)
                · -- 96
                  refine ax_go 3 (y := (100, [some (.ref o), some (.ref pg), some (.int sd), some (.int nn), some (.int ts), some (.int z75), some (.int dy), some (.int z69), some (.int z84)], [.ref o, .int z69, .ref pg], w70, 0, 0)) rfl trivial ?_
                  obtain ⟨fs89, g90, -, q91⟩ := hx_obj hw71 hG0 (s := 7) rfl (by decide)
                  obtain ⟨p92, e93, hG94⟩ := hx_fr (k := 0) (s := 4) q91 rfl
                  refine hx_gf (l := 103) rfl rfl rfl g90 e93 ?_
                  refine hx_ci (l := 106) (as := [.ref pg, .int z69, .ref p92]) rfl rfl (hx_iv (j := 10) (n := 2) (o := pg) (r := []) rfl rfl g80 rfl) (cc_X1_sendFrom_0 (fz := fz) hF (fun d => h_X7_part0 (fz := fz) hF (fun q hq => (by decide +kernel : ∀ q ∈ fb_X3_drawDays, q ∈ fb_X7_part0) q (hfz q hq)) d) (fun d => h_X2_value0 (fz := fz) hF (fun q hq => (by decide +kernel : ∀ q ∈ fb_X3_drawDays, q ∈ fb_X2_value0) q (hfz q hq)) d) (fun d => h_X1_has1 (fz := fz) hF (fun q hq => (by decide +kernel : ∀ q ∈ fb_X3_drawDays, q ∈ fb_X1_has1) q (hfz q hq)) d) (fun q hq => (by decide +kernel : ∀ q ∈ fb_X3_drawDays, q ∈ fr_X1_sendFrom_0) q (hfz q hq)) (d + 0)) hw71 hf72 ⟨(hx_tr (G := G) (s := 54) (b := 0) hG1 (by decide)), (ck_top_ok (G := G) z69), (hx_tr (G := G) (s := 4) (b := 0) hG94 (by decide)), trivial⟩ (fun w95 z100 hw96 hf97 m98 a101 b102 u103 => ?_)
                  have hs99 := ty_same_tr hs74 m98
                  refine ax_go 1 (y := (107, [some (.ref o), some (.ref pg), some (.int sd), some (.int nn), some (.int ts), some (.int z75), some (.int dy), some (.int z69), some (.int z84)], [], w95, 0, 0)) rfl trivial ?_
                  exact ct107 w95 ts z75 dy z69 z84 hw96 hf97 hs99 (by omega) (by omega)
                · -- 85
                  refine ax_go 2 (y := (88, [some (.ref o), some (.ref pg), some (.int sd), some (.int nn), some (.int ts), some (.int z75), some (.int dy), some (.int z69), some (.int z84)], [.int z69, .ref pg], w70, 0, 0)) rfl trivial ?_
                  refine hx_k (l := 89) (m := (-1)) rfl rfl (by decide) (fun z104 h105 => ?_)
                  refine hx_ci (l := 92) (as := [.ref pg, .int z69, .int z104]) rfl rfl (hx_iv (j := 15) (n := 2) (o := pg) (r := []) rfl rfl g80 rfl) (cc_X1_growBy_0 (fz := fz) hF (fun d => h_X1_has1 (fz := fz) hF (fun q hq => (by decide +kernel : ∀ q ∈ fb_X3_drawDays, q ∈ fb_X1_has1) q (hfz q hq)) d) (fun q hq => (by decide +kernel : ∀ q ∈ fb_X3_drawDays, q ∈ fr_X1_growBy_0) q (hfz q hq)) (d + 3)) hw71 hf72 ⟨(hx_tr (G := G) (s := 54) (b := 0) hG1 (by decide)), (ck_top_ok (G := G) z69), (ck_top_ok (G := G) z104), trivial⟩ (fun w106 z111 hw107 hf108 m109 a112 b113 u114 => ?_)
                  have hs110 := ty_same_tr hs74 m109
                  refine ax_go 2 (y := (107, [some (.ref o), some (.ref pg), some (.int sd), some (.int nn), some (.int ts), some (.int z75), some (.int dy), some (.int z69), some (.int z84)], [], w106, 0, 0)) rfl trivial ?_
                  exact ct107 w106 ts z75 dy z69 z84 hw107 hf108 hs110 (by omega) (by omega)
              · -- 68
                refine ax_go 2 (y := (71, [some (.ref o), some (.ref pg), some (.int sd), some (.int nn), some (.int ts), some (.int z75), some (.int dy), some (.int z69), some (.int z84)], [.int z69, .ref pg], w70, 0, 0)) rfl trivial ?_
                refine hx_k (l := 72) (m := 1) rfl rfl (by decide) (fun z115 h116 => ?_)
                refine hx_ci (l := 75) (as := [.ref pg, .int z69, .int z115]) rfl rfl (hx_iv (j := 15) (n := 2) (o := pg) (r := []) rfl rfl g80 rfl) (cc_X1_growBy_0 (fz := fz) hF (fun d => h_X1_has1 (fz := fz) hF (fun q hq => (by decide +kernel : ∀ q ∈ fb_X3_drawDays, q ∈ fb_X1_has1) q (hfz q hq)) d) (fun q hq => (by decide +kernel : ∀ q ∈ fb_X3_drawDays, q ∈ fr_X1_growBy_0) q (hfz q hq)) (d + 3)) hw71 hf72 ⟨(hx_tr (G := G) (s := 54) (b := 0) hG1 (by decide)), (ck_top_ok (G := G) z69), (ck_top_ok (G := G) z115), trivial⟩ (fun w117 z122 hw118 hf119 m120 a123 b124 u125 => ?_)
                have hs121 := ty_same_tr hs74 m120
                refine ax_go 2 (y := (107, [some (.ref o), some (.ref pg), some (.int sd), some (.int nn), some (.int ts), some (.int z75), some (.int dy), some (.int z69), some (.int z84)], [], w117, 0, 0)) rfl trivial ?_
                exact ct107 w117 ts z75 dy z69 z84 hw118 hf119 hs121 (by omega) (by omega)
    change ab_wp ro (ab_Ev ro ab_codes (d + 5)) 3 false (some .int) ab_k_X3_drawDays (fun o_1 => ∃ v w1, o_1 = (v, w1, 0, 0) ∧ ty_w sp_ G w1 ∧ F w1 ∧ ty_same G fz w w1 ∧ ck_res G (some (0, (-2147483648), 2147483647)) v ∧ ck_wit 0 0 [.ref o, .ref pg, .int sd, .int nn] v) (0, [some (.ref o), some (.ref pg), some (.int sd), some (.int nn), none, none, none, none, none], [], w, 0, 0)
    refine hx_k (l := 1) (m := 0) rfl rfl (by decide) (fun z126 h127 => ?_)
    refine ax_go 3 (y := (6, [some (.ref o), some (.ref pg), some (.int sd), some (.int nn), some (.int z126), some (.int sd), none, none, none], [], w, 0, 0)) rfl trivial ?_
    refine hx_k (l := 7) (m := 0) rfl rfl (by decide) (fun z128 h129 => ?_)
    refine ax_go 1 (y := (9, [some (.ref o), some (.ref pg), some (.int sd), some (.int nn), some (.int z126), some (.int sd), some (.int z128), none, none], [], w, 0, 0)) rfl trivial ?_
    exact ct9 _ w z126 sd z128 none none hw hf (ty_same_rf w) (by omega) (Nat.lt_succ_self _)
def fb_hp_X1_has : List (Nat × Nat) := [(8, 3), (8, 5), (19, 999), (32, 999), (33, 999), (34, 999), (35, 999), (44, 999), (45, 999), (1, 0), (18, 999), (2, 11), (2, 14), (1, 15), (54, 11), (4, 2), (7, 9), (30, 13), (30, 34), (30, 2), (30, 22), (30, 23), (30, 24), (30, 25), (46, 999), (47, 999), (30, 35), (30, 36), (7, 0), (24, 999), (37, 999), (30, 4), (30, 5), (30, 6), (30, 8), (30, 9), (30, 10), (30, 11), (30, 14), (30, 15), (30, 16), (30, 17), (30, 18), (30, 19), (30, 20), (30, 21), (39, 999), (40, 999), (41, 999), (30, 30), (30, 42), (30, 43), (30, 44), (1, 1), (1, 3), (1, 10), (1, 13), (8, 0), (30, 49), (2, 15), (8, 1)]
set_option maxHeartbeats 8000000 in
theorem hp_X1_has {ro : ab_R} {G : Nat → Nat} {fz : List (Nat × Nat)} {F : ab_W → Prop} (hF : ∀ w w', ty_same G pr_ w w' → F w → F w') (hfz : ∀ q ∈ fz, q ∈ fb_hp_X1_has) (d : Nat) : hx_ct ro sp_ G F fz (ab_Ev ro ab_codes (d + 1)) 5 [(2, 2, 0), (0, (-2147483648), 2147483647)] (some (0, 0, 1)) (fun _ _ => True) (fun as w v w1 => w1 = w ∧ ∀ (o : Nat) (p n z : Int32), as = [.ref o, .int p] → hx_has w o 1 11 (.int n) → v = some (.int z) → ((z.toInt ≠ 0 → 0 ≤ p.toInt ∧ p.toInt < n.toInt) ∧ (0 ≤ p.toInt ∧ p.toInt < n.toInt → z.toInt = 1))) := by
  refine hx_hand (d := d + 0) (by decide) (fun as w hw hf has hP => ?_)
  match as, has with
  | [v0, v1], ⟨h0, h1, _⟩ =>
    obtain ⟨o, rfl, _, hG0⟩ := ty_refn h0 rfl rfl
    replace hG0 : G o = 2 := hG0
    obtain ⟨p, rfl, hl1, hh1⟩ := ty_int h1 rfl
    replace hl1 : ((-2147483648) : Int) ≤ p.toInt := hl1
    replace hh1 : p.toInt ≤ 2147483647 := hh1
    refine ⟨rfl, ?_⟩
    change ab_wp ro (ab_Ev ro ab_codes d) 1 false (some .boolean) ab_k_X1_has (fun o_1 => ∃ v w1, o_1 = (v, w1, 0, 0) ∧ ty_w sp_ G w1 ∧ F w1 ∧ ty_same G fz w w1 ∧ ck_res G (some (0, 0, 1)) v ∧ (fun as w v w1 => w1 = w ∧ ∀ (o : Nat) (p n z : Int32), as = [.ref o, .int p] → hx_has w o 1 11 (.int n) → v = some (.int z) → ((z.toInt ≠ 0 → 0 ≤ p.toInt ∧ p.toInt < n.toInt) ∧ (0 ≤ p.toInt ∧ p.toInt < n.toInt → z.toInt = 1))) ([.ref o, .int p] : List Value) w v w1) (0, [some (.ref o), some (.int p)], [], w, 0, 0)
    refine ax_go 1 (y := (1, [some (.ref o), some (.int p)], [.int p], w, 0, 0)) rfl trivial ?_
    refine hx_if_lt (l := 4) rfl rfl (fun h1 => ?_) (fun h1 => ?_)
    · -- 22
      refine hx_k (l := 23) (m := 0) rfl rfl (by decide) (fun z2 h3 => ?_)
      exact ax_ret rfl rfl ⟨hx_01 (by omega) (by omega), trivial⟩ ⟨some (.int z2), _, rfl, hw, hf, (ty_same_rf w), (hx_ti (G := G) (lo := 0) (hi := 1) (by omega) (by omega)), ⟨rfl, fun o1 p1 n1 z1 h1 h2 h3 => by
        cases h1; cases h3
        obtain ⟨fs1, g1, e1⟩ := h2
        exact ⟨fun hz => ⟨by omega, by omega⟩, fun hz => by omega⟩⟩⟩
    · -- 4
      refine ax_go 2 (y := (6, [some (.ref o), some (.int p)], [.ref o, .int p], w, 0, 0)) rfl trivial ?_
      obtain ⟨fs4, g5, -, q6⟩ := hx_obj hw hG0 (s := 2) rfl (by decide)
      obtain ⟨x7, e8, a9, b10⟩ := hx_fi (k := 11) (lo := 0) (hi := 10) q6 rfl
      refine hx_gf (l := 9) rfl rfl rfl g5 e8 ?_
      refine hx_ic_ge (l := 12) rfl rfl (fun h11 => ?_) (fun h11 => ?_)
      · -- 22
        refine hx_k (l := 23) (m := 0) rfl rfl (by decide) (fun z12 h13 => ?_)
        exact ax_ret rfl rfl ⟨hx_01 (by omega) (by omega), trivial⟩ ⟨some (.int z12), _, rfl, hw, hf, (ty_same_rf w), (hx_ti (G := G) (lo := 0) (hi := 1) (by omega) (by omega)), ⟨rfl, fun o1 p1 n1 z1 h1 h2 h3 => by
          cases h1; cases h3
          obtain ⟨fs1, g1, e1⟩ := h2
          obtain rfl := hx_inj g5 g1
          obtain rfl := hx_inji e8 e1
          exact ⟨fun hz => ⟨by omega, by omega⟩, fun hz => by omega⟩⟩⟩
      · -- 12
        refine ax_go 1 (y := (13, [some (.ref o), some (.int p)], [.int p], w, 0, 0)) rfl trivial ?_
        refine hx_k (l := 15) (m := 10) rfl rfl (by decide) (fun z14 h15 => ?_)
        refine hx_ic_ge (l := 18) rfl rfl (fun h16 => ?_) (fun h16 => ?_)
        · -- 22
          refine hx_k (l := 23) (m := 0) rfl rfl (by decide) (fun z17 h18 => ?_)
          exact ax_ret rfl rfl ⟨hx_01 (by omega) (by omega), trivial⟩ ⟨some (.int z17), _, rfl, hw, hf, (ty_same_rf w), (hx_ti (G := G) (lo := 0) (hi := 1) (by omega) (by omega)), ⟨rfl, fun o1 p1 n1 z1 h1 h2 h3 => by
            cases h1; cases h3
            obtain ⟨fs1, g1, e1⟩ := h2
            obtain rfl := hx_inj g5 g1
            obtain rfl := hx_inji e8 e1
            exact ⟨fun hz => ⟨by omega, by omega⟩, fun hz => by omega⟩⟩⟩
        · -- 18
          refine hx_k (l := 19) (m := 1) rfl rfl (by decide) (fun z19 h20 => ?_)
          refine ax_go 1 (y := (23, [some (.ref o), some (.int p)], [.int z19], w, 0, 0)) rfl trivial ?_
          exact ax_ret rfl rfl ⟨hx_01 (by omega) (by omega), trivial⟩ ⟨some (.int z19), _, rfl, hw, hf, (ty_same_rf w), (hx_ti (G := G) (lo := 0) (hi := 1) (by omega) (by omega)), ⟨rfl, fun o1 p1 n1 z1 h1 h2 h3 => by
            cases h1; cases h3
            obtain ⟨fs1, g1, e1⟩ := h2
            obtain rfl := hx_inj g5 g1
            obtain rfl := hx_inji e8 e1
            exact ⟨fun hz => ⟨by omega, by omega⟩, fun hz => by omega⟩⟩⟩
def fb_hp_X0_ask : List (Nat × Nat) := [(8, 3), (8, 5), (19, 999), (32, 999), (33, 999), (34, 999), (35, 999), (44, 999), (45, 999), (1, 0), (18, 999), (2, 11), (2, 14), (1, 15), (54, 11), (7, 9), (30, 13), (30, 34), (30, 2), (30, 22), (30, 23), (30, 24), (30, 25), (46, 999), (47, 999), (30, 35), (30, 36), (7, 0), (24, 999), (37, 999), (30, 4), (30, 5), (30, 6), (30, 8), (30, 9), (30, 10), (30, 11), (30, 14), (30, 15), (30, 16), (30, 17), (30, 18), (30, 19), (30, 20), (30, 21), (39, 999), (40, 999), (41, 999), (30, 30), (30, 42), (30, 43), (30, 44), (1, 1), (1, 3), (1, 10), (1, 13), (8, 0), (30, 49), (2, 15), (8, 1)]
set_option maxHeartbeats 8000000 in
theorem hp_X0_ask {ro : ab_R} {G : Nat → Nat} {fz : List (Nat × Nat)} {F : ab_W → Prop} (hF : ∀ w w', ty_same G pr_ w w' → F w → F w') (hfz : ∀ q ∈ fz, q ∈ fb_hp_X0_ask) (d : Nat) : hx_ct ro sp_ G F fz (ab_Ev ro ab_codes (d + 4)) 2 [(2, 4, 0), (2, 2, 0), (0, (-2147483648), 2147483647), (0, (-2147483648), 2147483647)] none (fun as w => ∀ (o la : Nat) (p t n : Int32), as = [.ref o, .ref la, .int p, .int t] → hx_has w la 1 11 (.int n) → 0 ≤ p.toInt ∧ p.toInt < n.toInt) (fun as _ _ w1 => ∀ (o la : Nat) (p t : Int32), as = [.ref o, .ref la, .int p, .int t] → ∃ z : Int32, hx_has w1 o 0 2 (.int z) ∧ 2 ≤ z.toInt ∧ z.toInt ≤ 99) := by
  refine hx_hand (d := d + 3) (by decide) (fun as w hw hf has hP => ?_)
  match as, has with
  | [v0, v1, v2, v3], ⟨h0, h1, h2, h3, _⟩ =>
    obtain ⟨o, rfl, _, hG0⟩ := ty_refn h0 rfl rfl
    replace hG0 : G o = 4 := hG0
    obtain ⟨la, rfl, _, hG1⟩ := ty_refn h1 rfl rfl
    replace hG1 : G la = 2 := hG1
    obtain ⟨p, rfl, hl2, hh2⟩ := ty_int h2 rfl
    replace hl2 : ((-2147483648) : Int) ≤ p.toInt := hl2
    replace hh2 : p.toInt ≤ 2147483647 := hh2
    obtain ⟨tn, rfl, hl3, hh3⟩ := ty_int h3 rfl
    replace hl3 : ((-2147483648) : Int) ≤ tn.toInt := hl3
    replace hh3 : tn.toInt ≤ 2147483647 := hh3
    refine ⟨rfl, ?_⟩
    obtain ⟨fs1, g2, -, q3⟩ := hx_obj hw hG1 (s := 2) rfl (by decide)
    obtain ⟨x4, e5, a6, b7⟩ := hx_fi (k := 11) (lo := 0) (hi := 10) q3 rfl
    have hp0 := hP o la p tn x4 rfl ⟨_, g2, e5⟩
    change ab_wp ro (ab_Ev ro ab_codes (d + 3)) 0 false none ab_k_X0_ask (fun o_1 => ∃ v w1, o_1 = (v, w1, 0, 0) ∧ ty_w sp_ G w1 ∧ F w1 ∧ ty_same G fz w w1 ∧ ck_res G none v ∧ (fun as _ _ w1 => ∀ (o la : Nat) (p t : Int32), as = [.ref o, .ref la, .int p, .int t] → ∃ z : Int32, hx_has w1 o 0 2 (.int z) ∧ 2 ≤ z.toInt ∧ z.toInt ≤ 99) ([.ref o, .ref la, .int p, .int tn] : List Value) w v w1) (0, [some (.ref o), some (.ref la), some (.int p), some (.int tn), none], [], w, 0, 0)
    refine ax_go 2 (y := (2, [some (.ref o), some (.ref la), some (.int p), some (.int tn), none], [.int p, .ref la], w, 0, 0)) rfl trivial ?_
    refine hx_pi (l := 5) (as := [.ref la, .int p]) rfl rfl (hx_iv (j := 5) (n := 1) (o := la) (r := []) rfl rfl g2 rfl) (hp_X1_has (fz := fz) hF (fun q hq => (by decide +kernel : ∀ q ∈ fb_hp_X0_ask, q ∈ fb_hp_X1_has) q (hfz q hq)) (d + 2)) hw hf ⟨(hx_tr (G := G) (s := 2) (b := 0) hG1 (by decide)), (ck_top_ok (G := G) p), trivial⟩ trivial (fun w8 z13 hw9 hf10 m11 a14 b15 u16 => ?_)
    rw [u16.1]
    have u17 := u16.2 _ _ _ _ rfl ⟨_, g2, e5⟩ rfl
    refine hx_if_ne (l := 8) rfl rfl (fun h18 => ?_) (fun h18 => ?_)
    · -- 9
      refine ax_go 1 (y := (10, [some (.ref o), some (.ref la), some (.int p), some (.int tn), none], [.ref la], w, 0, 0)) rfl trivial ?_
      refine hx_cl (l := 13) (as := [.ref la]) rfl rfl (hx_iv (j := 6) (n := 0) (o := la) (r := []) rfl rfl g2 rfl) (cc_X1_lawInForce_0 (fz := fz) hF  (fun q hq => (by decide +kernel : ∀ q ∈ fb_hp_X0_ask, q ∈ fr_X1_lawInForce_0) q (hfz q hq)) (d + 2)) hw hf ⟨(hx_tr (G := G) (s := 2) (b := 0) hG1 (by decide)), trivial⟩ (fun v28 w19 hw20 hf21 m22 q29 _ => ?_)
      have hs23 := ty_same_tr (ty_same_rf w) m22
      rcases hx_rr (s := 10) q29 with ⟨z24, rfl, hG31⟩ | rfl
      · -- a reference or null
        change ab_wp ro (ab_Ev ro ab_codes (d + 3)) 0 false none ab_k_X0_ask (fun o_1 => ∃ v w1, o_1 = (v, w1, 0, 0) ∧ ty_w sp_ G w1 ∧ F w1 ∧ ty_same G fz w w1 ∧ ck_res G none v ∧ (fun as _ _ w1 => ∀ (o la : Nat) (p t : Int32), as = [.ref o, .ref la, .int p, .int t] → ∃ z : Int32, hx_has w1 o 0 2 (.int z) ∧ 2 ≤ z.toInt ∧ z.toInt ≤ 99) ([.ref o, .ref la, .int p, .int tn] : List Value) w v w1) (13, [some (.ref o), some (.ref la), some (.int p), some (.int tn), none], [.ref z24], w19, 0, 0)
        refine ax_go 2 (y := (16, [some (.ref o), some (.ref la), some (.int p), some (.int tn), some (.ref z24)], [.ref o], w19, 0, 0)) rfl trivial ?_
        obtain ⟨fs32, g33, -, q34⟩ := hx_obj hw20 hG0 (s := 4) rfl (by decide)
        obtain ⟨p35, e36, hG37⟩ := hx_fr (k := 1) (s := 14) q34 rfl
        refine hx_gf (l := 19) rfl rfl rfl g33 e36 ?_
        refine hx_k (l := 20) (m := 0) rfl rfl (by decide) (fun z38 h39 => ?_)
        refine ax_go 1 (y := (21, [some (.ref o), some (.ref la), some (.int p), some (.int tn), some (.ref z24)], [.int p, .int z38, .ref p35], w19, 0, 0)) rfl trivial ?_
        obtain ⟨f40, g41, r42⟩ := hx_row hw20 hG37 (s := 14) (kd := 0) (n := 8) rfl (by decide)
        refine hx_is (s := 14) (l := 22) rfl rfl rfl hw20 hG37 g41 (by omega) (by omega) hx_sg0 (fun w43 f44 g45 e46 o47 n48 hw49 n50 => ?_)
        have hs51 := ty_same_tr hs23 (n50 fz (hx_ok hfz (by decide)))
        have hf52 := hF _ _ (n50 pr_ (by decide)) hf21
        refine ax_go 1 (y := (23, [some (.ref o), some (.ref la), some (.int p), some (.int tn), some (.ref z24)], [.ref o], w43, 0, 0)) rfl trivial ?_
        refine hx_gf (l := 26) rfl rfl rfl ((n48 _ (hx_ne hG0 hG37 (by decide))).trans g33) e36 ?_
        refine hx_k (l := 27) (m := 1) rfl rfl (by decide) (fun z53 h54 => ?_)
        refine ax_go 1 (y := (28, [some (.ref o), some (.ref la), some (.int p), some (.int tn), some (.ref z24)], [.ref la, .int z53, .ref p35], w43, 0, 0)) rfl trivial ?_
        obtain ⟨fs55, g56, -, q57⟩ := hx_obj hw49 hG1 (s := 2) rfl (by decide)
        obtain ⟨p58, e59, hG60⟩ := hx_fr (k := 2) (s := 11) q57 rfl
        refine hx_gf (l := 31) rfl rfl rfl g56 e59 ?_
        refine ax_go 1 (y := (32, [some (.ref o), some (.ref la), some (.int p), some (.int tn), some (.ref z24)], [.int p, .ref p58, .int z53, .ref p35], w43, 0, 0)) rfl trivial ?_
        obtain ⟨f61, g62, r63⟩ := hx_row hw49 hG60 (s := 11) (kd := 0) (n := 10) rfl (by decide)
        refine hx_il (l := 33) rfl rfl g62 (by omega) (by omega) (fun z64 h65 => ?_)
        refine hx_is (s := 14) (l := 34) rfl rfl rfl hw49 hG37 g45 (by omega) (by omega) hx_sg0 (fun w66 f67 g68 e69 o70 n71 hw72 n73 => ?_)
        have hs74 := ty_same_tr hs51 (n73 fz (hx_ok hfz (by decide)))
        have hf75 := hF _ _ (n73 pr_ (by decide)) hf52
        refine ax_go 1 (y := (35, [some (.ref o), some (.ref la), some (.int p), some (.int tn), some (.ref z24)], [.ref o], w66, 0, 0)) rfl trivial ?_
        refine hx_gf (l := 38) rfl rfl rfl ((n71 _ (hx_ne hG0 hG37 (by decide))).trans ((n48 _ (hx_ne hG0 hG37 (by decide))).trans g33)) e36 ?_
        refine hx_k (l := 39) (m := 2) rfl rfl (by decide) (fun z76 h77 => ?_)
        refine hx_k (l := 40) (m := (-1)) rfl rfl (by decide) (fun z78 h79 => ?_)
        refine hx_is (s := 14) (l := 41) rfl rfl rfl hw72 hG37 g68 (by omega) (by omega) hx_sg0 (fun w80 f81 g82 e83 o84 n85 hw86 n87 => ?_)
        have hs88 := ty_same_tr hs74 (n87 fz (hx_ok hfz (by decide)))
        have hf89 := hF _ _ (n87 pr_ (by decide)) hf75
        refine ax_go 1 (y := (42, [some (.ref o), some (.ref la), some (.int p), some (.int tn), some (.ref z24)], [.ref o], w80, 0, 0)) rfl trivial ?_
        refine hx_gf (l := 45) rfl rfl rfl ((n85 _ (hx_ne hG0 hG37 (by decide))).trans ((n71 _ (hx_ne hG0 hG37 (by decide))).trans ((n48 _ (hx_ne hG0 hG37 (by decide))).trans g33))) e36 ?_
        refine hx_k (l := 46) (m := 3) rfl rfl (by decide) (fun z90 h91 => ?_)
        refine ax_go 1 (y := (47, [some (.ref o), some (.ref la), some (.int p), some (.int tn), some (.ref z24)], [.ref la, .int z90, .ref p35], w80, 0, 0)) rfl trivial ?_
        obtain ⟨p92, e93, hG94⟩ := hx_fr (k := 0) (s := 11) q57 rfl
        refine hx_gf (l := 50) rfl rfl rfl ((n85 _ (hx_ne hG1 hG37 (by decide))).trans ((n71 _ (hx_ne hG1 hG37 (by decide))).trans g56)) e93 ?_
        refine ax_go 1 (y := (51, [some (.ref o), some (.ref la), some (.int p), some (.int tn), some (.ref z24)], [.int p, .ref p92, .int z90, .ref p35], w80, 0, 0)) rfl trivial ?_
        obtain ⟨f95, g96, r97⟩ := hx_row hw86 hG94 (s := 11) (kd := 0) (n := 10) rfl (by decide)
        refine hx_il (l := 52) rfl rfl g96 (by omega) (by omega) (fun z98 h99 => ?_)
        refine hx_is (s := 14) (l := 53) rfl rfl rfl hw86 hG37 g82 (by omega) (by omega) hx_sg0 (fun w100 f101 g102 e103 o104 n105 hw106 n107 => ?_)
        have hs108 := ty_same_tr hs88 (n107 fz (hx_ok hfz (by decide)))
        have hf109 := hF _ _ (n107 pr_ (by decide)) hf89
        refine ax_go 1 (y := (54, [some (.ref o), some (.ref la), some (.int p), some (.int tn), some (.ref z24)], [.ref o], w100, 0, 0)) rfl trivial ?_
        refine hx_gf (l := 57) rfl rfl rfl ((n105 _ (hx_ne hG0 hG37 (by decide))).trans ((n85 _ (hx_ne hG0 hG37 (by decide))).trans ((n71 _ (hx_ne hG0 hG37 (by decide))).trans ((n48 _ (hx_ne hG0 hG37 (by decide))).trans g33)))) e36 ?_
        refine hx_k (l := 58) (m := 4) rfl rfl (by decide) (fun z110 h111 => ?_)
        refine ax_go 1 (y := (59, [some (.ref o), some (.ref la), some (.int p), some (.int tn), some (.ref z24)], [.ref la, .int z110, .ref p35], w100, 0, 0)) rfl trivial ?_
        obtain ⟨p112, e113, hG114⟩ := hx_fr (k := 1) (s := 11) q57 rfl
        refine hx_gf (l := 62) rfl rfl rfl ((n105 _ (hx_ne hG1 hG37 (by decide))).trans ((n85 _ (hx_ne hG1 hG37 (by decide))).trans ((n71 _ (hx_ne hG1 hG37 (by decide))).trans g56))) e113 ?_
        refine ax_go 1 (y := (63, [some (.ref o), some (.ref la), some (.int p), some (.int tn), some (.ref z24)], [.int p, .ref p112, .int z110, .ref p35], w100, 0, 0)) rfl trivial ?_
        obtain ⟨f115, g116, r117⟩ := hx_row hw106 hG114 (s := 11) (kd := 0) (n := 10) rfl (by decide)
        refine hx_il (l := 64) rfl rfl g116 (by omega) (by omega) (fun z118 h119 => ?_)
        refine hx_is (s := 14) (l := 65) rfl rfl rfl hw106 hG37 g102 (by omega) (by omega) hx_sg0 (fun w120 f121 g122 e123 o124 n125 hw126 n127 => ?_)
        have hs128 := ty_same_tr hs108 (n127 fz (hx_ok hfz (by decide)))
        have hf129 := hF _ _ (n127 pr_ (by decide)) hf109
        refine ax_go 1 (y := (66, [some (.ref o), some (.ref la), some (.int p), some (.int tn), some (.ref z24)], [.ref o], w120, 0, 0)) rfl trivial ?_
        refine hx_gf (l := 69) rfl rfl rfl ((n125 _ (hx_ne hG0 hG37 (by decide))).trans ((n105 _ (hx_ne hG0 hG37 (by decide))).trans ((n85 _ (hx_ne hG0 hG37 (by decide))).trans ((n71 _ (hx_ne hG0 hG37 (by decide))).trans ((n48 _ (hx_ne hG0 hG37 (by decide))).trans g33))))) e36 ?_
        refine hx_k (l := 70) (m := 5) rfl rfl (by decide) (fun z130 h131 => ?_)
        refine ax_go 1 (y := (71, [some (.ref o), some (.ref la), some (.int p), some (.int tn), some (.ref z24)], [.ref la, .int z130, .ref p35], w120, 0, 0)) rfl trivial ?_
        obtain ⟨p132, e133, hG134⟩ := hx_fr (k := 3) (s := 11) q57 rfl
        refine hx_gf (l := 74) rfl rfl rfl ((n125 _ (hx_ne hG1 hG37 (by decide))).trans ((n105 _ (hx_ne hG1 hG37 (by decide))).trans ((n85 _ (hx_ne hG1 hG37 (by decide))).trans ((n71 _ (hx_ne hG1 hG37 (by decide))).trans g56)))) e133 ?_
        refine ax_go 1 (y := (75, [some (.ref o), some (.ref la), some (.int p), some (.int tn), some (.ref z24)], [.int p, .ref p132, .int z130, .ref p35], w120, 0, 0)) rfl trivial ?_
        obtain ⟨f135, g136, r137⟩ := hx_row hw126 hG134 (s := 11) (kd := 0) (n := 10) rfl (by decide)
        refine hx_il (l := 76) rfl rfl g136 (by omega) (by omega) (fun z138 h139 => ?_)
        refine hx_is (s := 14) (l := 77) rfl rfl rfl hw126 hG37 g122 (by omega) (by omega) hx_sg0 (fun w140 f141 g142 e143 o144 n145 hw146 n147 => ?_)
        have hs148 := ty_same_tr hs128 (n147 fz (hx_ok hfz (by decide)))
        have hf149 := hF _ _ (n147 pr_ (by decide)) hf129
        refine ax_go 1 (y := (78, [some (.ref o), some (.ref la), some (.int p), some (.int tn), some (.ref z24)], [.ref o], w140, 0, 0)) rfl trivial ?_
        refine hx_gf (l := 81) rfl rfl rfl ((n145 _ (hx_ne hG0 hG37 (by decide))).trans ((n125 _ (hx_ne hG0 hG37 (by decide))).trans ((n105 _ (hx_ne hG0 hG37 (by decide))).trans ((n85 _ (hx_ne hG0 hG37 (by decide))).trans ((n71 _ (hx_ne hG0 hG37 (by decide))).trans ((n48 _ (hx_ne hG0 hG37 (by decide))).trans g33)))))) e36 ?_
        refine hx_k (l := 83) (m := 6) rfl rfl (by decide) (fun z150 h151 => ?_)
        refine ax_go 1 (y := (84, [some (.ref o), some (.ref la), some (.int p), some (.int tn), some (.ref z24)], [.ref la, .int z150, .ref p35], w140, 0, 0)) rfl trivial ?_
        obtain ⟨p152, e153, hG154⟩ := hx_fr (k := 7) (s := 13) q57 rfl
        refine hx_gf (l := 87) rfl rfl rfl ((n145 _ (hx_ne hG1 hG37 (by decide))).trans ((n125 _ (hx_ne hG1 hG37 (by decide))).trans ((n105 _ (hx_ne hG1 hG37 (by decide))).trans ((n85 _ (hx_ne hG1 hG37 (by decide))).trans ((n71 _ (hx_ne hG1 hG37 (by decide))).trans g56))))) e153 ?_
        refine hx_k (l := 88) (m := 0) rfl rfl (by decide) (fun z155 h156 => ?_)
        obtain ⟨f157, g158, r159⟩ := hx_row hw146 hG154 (s := 13) (kd := 0) (n := 4) rfl (by decide)
        refine hx_il (l := 89) rfl rfl g158 (by omega) (by omega) (fun z160 h161 => ?_)
        refine hx_is (s := 14) (l := 90) rfl rfl rfl hw146 hG37 g142 (by omega) (by omega) hx_sg0 (fun w162 f163 g164 e165 o166 n167 hw168 n169 => ?_)
        have hs170 := ty_same_tr hs148 (n169 fz (hx_ok hfz (by decide)))
        have hf171 := hF _ _ (n169 pr_ (by decide)) hf149
        refine ax_go 1 (y := (91, [some (.ref o), some (.ref la), some (.int p), some (.int tn), some (.ref z24)], [.ref o], w162, 0, 0)) rfl trivial ?_
        refine hx_gf (l := 94) rfl rfl rfl ((n167 _ (hx_ne hG0 hG37 (by decide))).trans ((n145 _ (hx_ne hG0 hG37 (by decide))).trans ((n125 _ (hx_ne hG0 hG37 (by decide))).trans ((n105 _ (hx_ne hG0 hG37 (by decide))).trans ((n85 _ (hx_ne hG0 hG37 (by decide))).trans ((n71 _ (hx_ne hG0 hG37 (by decide))).trans ((n48 _ (hx_ne hG0 hG37 (by decide))).trans g33))))))) e36 ?_
        refine hx_k (l := 96) (m := 7) rfl rfl (by decide) (fun z172 h173 => ?_)
        refine ax_go 1 (y := (97, [some (.ref o), some (.ref la), some (.int p), some (.int tn), some (.ref z24)], [.ref la, .int z172, .ref p35], w162, 0, 0)) rfl trivial ?_
        refine hx_gf (l := 100) rfl rfl rfl ((n167 _ (hx_ne hG1 hG37 (by decide))).trans ((n145 _ (hx_ne hG1 hG37 (by decide))).trans ((n125 _ (hx_ne hG1 hG37 (by decide))).trans ((n105 _ (hx_ne hG1 hG37 (by decide))).trans ((n85 _ (hx_ne hG1 hG37 (by decide))).trans ((n71 _ (hx_ne hG1 hG37 (by decide))).trans g56)))))) e153 ?_
        refine hx_k (l := 101) (m := 3) rfl rfl (by decide) (fun z174 h175 => ?_)
        refine hx_il (l := 102) rfl rfl ((n167 _ (hx_ne hG154 hG37 (by decide))).trans g158) (by omega) (by omega) (fun z176 h177 => ?_)
        refine hx_is (s := 14) (l := 103) rfl rfl rfl hw168 hG37 g164 (by omega) (by omega) hx_sg0 (fun w178 f179 g180 e181 o182 n183 hw184 n185 => ?_)
        have hs186 := ty_same_tr hs170 (n185 fz (hx_ok hfz (by decide)))
        have hf187 := hF _ _ (n185 pr_ (by decide)) hf171
        refine ax_go 2 (y := (105, [some (.ref o), some (.ref la), some (.int p), some (.int tn), some (.ref z24)], [.int tn, .ref o], w178, 0, 0)) rfl trivial ?_
        refine hx_if_le (l := 108) rfl rfl (fun h188 => ?_) (fun h188 => ?_)
        · -- 112
          refine ax_go 2 (y := (115, [some (.ref o), some (.ref la), some (.int p), some (.int tn), some (.ref z24)], [.ref z24, .ref o, .ref o], w178, 0, 0)) rfl trivial ?_
          refine hx_k (l := 116) (m := 0) rfl rfl (by decide) (fun z189 h190 => ?_)
          refine ax_go 1 (y := (117, [some (.ref o), some (.ref la), some (.int p), some (.int tn), some (.ref z24)], [.ref la, .int z189, .ref z24, .ref o, .ref o], w178, 0, 0)) rfl trivial ?_
          refine hx_gf (l := 120) rfl rfl rfl ((n183 _ (hx_ne hG1 hG37 (by decide))).trans ((n167 _ (hx_ne hG1 hG37 (by decide))).trans ((n145 _ (hx_ne hG1 hG37 (by decide))).trans ((n125 _ (hx_ne hG1 hG37 (by decide))).trans ((n105 _ (hx_ne hG1 hG37 (by decide))).trans ((n85 _ (hx_ne hG1 hG37 (by decide))).trans ((n71 _ (hx_ne hG1 hG37 (by decide))).trans g56))))))) e153 ?_
          refine hx_k (l := 121) (m := 1) rfl rfl (by decide) (fun z191 h192 => ?_)
          refine hx_il (l := 122) rfl rfl ((n183 _ (hx_ne hG154 hG37 (by decide))).trans ((n167 _ (hx_ne hG154 hG37 (by decide))).trans g158)) (by omega) (by omega) (fun z193 h194 => ?_)
          refine hx_ci (l := 125) (as := [.ref o, .ref z24, .int z189, .int z193]) rfl rfl (hx_iv (j := 3) (n := 3) (o := o) (r := [.ref o]) rfl rfl ((n183 _ (hx_ne hG0 hG37 (by decide))).trans ((n167 _ (hx_ne hG0 hG37 (by decide))).trans ((n145 _ (hx_ne hG0 hG37 (by decide))).trans ((n125 _ (hx_ne hG0 hG37 (by decide))).trans ((n105 _ (hx_ne hG0 hG37 (by decide))).trans ((n85 _ (hx_ne hG0 hG37 (by decide))).trans ((n71 _ (hx_ne hG0 hG37 (by decide))).trans ((n48 _ (hx_ne hG0 hG37 (by decide))).trans g33)))))))) rfl) (cc_X0_latestOf_0 (fz := ([(4, 2)] ++ fz)) hF (fun d => h_X7_part0 (fz := ([(4, 2)] ++ fz)) hF (hx_app (by decide +kernel) (fun q hq => (by decide +kernel : ∀ q ∈ fb_hp_X0_ask, q ∈ fb_X7_part0) q (hfz q hq))) d) (fun d => h_X2_value0 (fz := ([(4, 2)] ++ fz)) hF (hx_app (by decide +kernel) (fun q hq => (by decide +kernel : ∀ q ∈ fb_hp_X0_ask, q ∈ fb_X2_value0) q (hfz q hq))) d) (hx_app (by decide +kernel) (fun q hq => (by decide +kernel : ∀ q ∈ fb_hp_X0_ask, q ∈ fr_X0_latestOf_0) q (hfz q hq))) (d + 0)) hw184 hf187 ⟨(hx_tr (G := G) (s := 4) (b := 0) hG0 (by decide)), (hx_tr (G := G) (s := 10) (b := 1) hG31 (by decide)), (ck_top_ok (G := G) z189), (ck_top_ok (G := G) z193), trivial⟩ (fun w195 z200 hw196 hf197 m198 a201 b202 u203 => ?_)
          have hs199 := ty_same_tr hs186 (hx_sapp m198)
          refine hx_k (l := 126) (m := 2) rfl rfl (by decide) (fun z204 h205 => ?_)
          refine hx_k (l := 128) (m := 99) rfl rfl (by decide) (fun z206 h207 => ?_)
          refine hx_ci (l := 131) (as := [.int z200, .int z204, .int z206]) rfl rfl rfl (cc_X8_bounded_0 (fz := ([(4, 2)] ++ fz)) hF  (hx_app (by decide +kernel) (fun q hq => (by decide +kernel : ∀ q ∈ fb_hp_X0_ask, q ∈ fr_X8_bounded_0) q (hfz q hq))) (d + 2)) hw196 hf197 ⟨(ck_top_ok (G := G) z200), (hx_ti (G := G) (lo := 2) (hi := 2) (by omega) (by omega)), (hx_ti (G := G) (lo := 99) (hi := 99) (by omega) (by omega)), trivial⟩ (fun w208 z213 hw209 hf210 m211 a214 b215 u216 => ?_)
          have hs212 := ty_same_tr hs199 (hx_sapp m211)
          obtain ⟨fs217, g218, -, q219⟩ := hx_obj hw209 hG0 (s := 4) rfl (by decide)
          refine hx_pf (q := (0, 0, 0, 0, (-2147483648), 2147483647)) (s := 4) (l := 134) (v := .int z213) rfl rfl rfl (by decide) rfl rfl rfl hw209 hG0 g218 trivial (ck_top_ok (G := G) z213) (fun w220 fs221 g222 e223 o224 n225 hw226 n227 => ?_)
          have hs228 := ty_same_tr hs212 (n227 fz (hx_ok hfz (by decide)))
          have hf229 := hF _ _ (n227 pr_ (by decide)) hf210
          refine ax_go 2 (y := (136, [some (.ref o), some (.ref la), some (.int p), some (.int tn), some (.ref z24)], [.ref la, .ref o], w220, 0, 0)) rfl trivial ?_
          obtain ⟨fs230, g231, -, q232⟩ := hx_obj hw226 hG1 (s := 2) rfl (by decide)
          obtain ⟨p233, e234, hG235⟩ := hx_fr (k := 2) (s := 11) q232 rfl
          refine hx_gf (l := 139) rfl rfl rfl g231 e234 ?_
          refine ax_go 1 (y := (140, [some (.ref o), some (.ref la), some (.int p), some (.int tn), some (.ref z24)], [.int p, .ref p233, .ref o], w220, 0, 0)) rfl trivial ?_
          obtain ⟨f236, g237, r238⟩ := hx_row hw226 hG235 (s := 11) (kd := 0) (n := 10) rfl (by decide)
          refine hx_il (l := 141) rfl rfl g237 (by omega) (by omega) (fun z239 h240 => ?_)
          refine ax_go 1 (y := (142, [some (.ref o), some (.ref la), some (.int p), some (.int tn), some (.ref z24)], [.ref o, .int z239, .ref o], w220, 0, 0)) rfl trivial ?_
          refine hx_gf (l := 145) rfl rfl rfl g222 e223 ?_
          refine hx_idv (l := 146) rfl (by simp) rfl (by omega) (fun z241 => ?_)
          refine hx_pf (q := (0, 0, 0, 0, (-2147483648), 2147483647)) (s := 4) (l := 149) (v := .int z241) rfl rfl rfl (by decide) rfl rfl rfl hw226 hG0 g222 trivial (ck_top_ok (G := G) z241) (fun w242 fs243 g244 e245 o246 n247 hw248 n249 => ?_)
          have hs250 := ty_same_tr hs228 (n249 fz (hx_ok hfz (by decide)))
          have hf251 := hF _ _ (n249 pr_ (by decide)) hf229
          refine ax_go 1 (y := (150, [some (.ref o), some (.ref la), some (.int p), some (.int tn), some (.ref z24)], [.ref o], w242, 0, 0)) rfl trivial ?_
          have q252 := hx_oq hw248 g244 hG0 (s := 4) rfl
          obtain ⟨p253, e254, hG255⟩ := hx_fr (k := 1) (s := 14) q252 rfl
          refine hx_gf (l := 153) rfl rfl rfl g244 e254 ?_
          refine hx_k (l := 154) (m := 2) rfl rfl (by decide) (fun z256 h257 => ?_)
          refine ax_go 1 (y := (155, [some (.ref o), some (.ref la), some (.int p), some (.int tn), some (.ref z24)], [.ref o, .int z256, .ref p253], w242, 0, 0)) rfl trivial ?_
          refine hx_gf (l := 158) rfl rfl rfl g244 e245 ?_
          obtain ⟨f258, g259, r260⟩ := hx_row hw248 hG255 (s := 14) (kd := 0) (n := 8) rfl (by decide)
          refine hx_is (s := 14) (l := 159) rfl rfl rfl hw248 hG255 g259 (by omega) (by omega) hx_sg0 (fun w261 f262 g263 e264 o265 n266 hw267 n268 => ?_)
          have hs269 := ty_same_tr hs250 (n268 fz (hx_ok hfz (by decide)))
          have hf270 := hF _ _ (n268 pr_ (by decide)) hf251
          refine ax_go 2 (y := (161, [some (.ref o), some (.ref la), some (.int p), some (.int tn), some (.ref z24)], [.ref o, .ref o], w261, 0, 0)) rfl trivial ?_
          refine hx_gf (l := 164) rfl rfl rfl ((n266 _ (hx_ne hG0 hG255 (by decide))).trans g244) e245 ?_
          refine ax_go 2 (y := (167, [some (.ref o), some (.ref la), some (.int p), some (.int tn), some (.ref z24)], [.ref z24, .ref o, .int z241, .ref o], w261, 0, 0)) rfl trivial ?_
          refine hx_k (l := 168) (m := 1) rfl rfl (by decide) (fun z271 h272 => ?_)
          refine hx_k (l := 169) (m := 0) rfl rfl (by decide) (fun z273 h274 => ?_)
          refine hx_ci (l := 172) (as := [.ref o, .ref z24, .int z271, .int z273]) rfl rfl (hx_iv (j := 3) (n := 3) (o := o) (r := [.int z241, .ref o]) rfl rfl ((n266 _ (hx_ne hG0 hG255 (by decide))).trans g244) rfl) (cc_X0_latestOf_0 (fz := ([(4, 2)] ++ fz)) hF (fun d => h_X7_part0 (fz := ([(4, 2)] ++ fz)) hF (hx_app (by decide +kernel) (fun q hq => (by decide +kernel : ∀ q ∈ fb_hp_X0_ask, q ∈ fb_X7_part0) q (hfz q hq))) d) (fun d => h_X2_value0 (fz := ([(4, 2)] ++ fz)) hF (hx_app (by decide +kernel) (fun q hq => (by decide +kernel : ∀ q ∈ fb_hp_X0_ask, q ∈ fb_X2_value0) q (hfz q hq))) d) (hx_app (by decide +kernel) (fun q hq => (by decide +kernel : ∀ q ∈ fb_hp_X0_ask, q ∈ fr_X0_latestOf_0) q (hfz q hq))) (d + 0)) hw267 hf270 ⟨(hx_tr (G := G) (s := 4) (b := 0) hG0 (by decide)), (hx_tr (G := G) (s := 10) (b := 1) hG31 (by decide)), (ck_top_ok (G := G) z271), (ck_top_ok (G := G) z273), trivial⟩ (fun w275 z280 hw276 hf277 m278 a281 b282 u283 => ?_)
          have hs279 := ty_same_tr hs269 (hx_sapp m278)
          obtain ⟨fs284, g285, -, q286⟩ := hx_obj hw276 hG0 (s := 4) rfl (by decide)
          refine hx_k (l := 173) (m := 0) rfl rfl (by decide) (fun z287 h288 => ?_)
          refine hx_k (l := 175) (m := 98) rfl rfl (by decide) (fun z289 h290 => ?_)
          refine hx_ci (l := 178) (as := [.int z280, .int z287, .int z289]) rfl rfl rfl (cc_X8_bounded_1 (fz := ([(4, 2)] ++ fz)) hF  (hx_app (by decide +kernel) (fun q hq => (by decide +kernel : ∀ q ∈ fb_hp_X0_ask, q ∈ fr_X8_bounded_1) q (hfz q hq))) (d + 2)) hw276 hf277 ⟨(ck_top_ok (G := G) z280), (hx_ti (G := G) (lo := 0) (hi := 0) (by omega) (by omega)), (hx_ti (G := G) (lo := 98) (hi := 98) (by omega) (by omega)), trivial⟩ (fun w291 z296 hw292 hf293 m294 a297 b298 u299 => ?_)
          have hs295 := ty_same_tr hs279 (hx_sapp m294)
          obtain ⟨fs300, g301, -, q302⟩ := hx_obj hw292 hG0 (s := 4) rfl (by decide)
          refine hx_min (l := 181) rfl rfl (by decide) rfl (fun z303 h304 => ?_)
          refine hx_pf (q := (0, 0, 0, 0, (-2147483648), 2147483647)) (s := 4) (l := 184) (v := .int z303) rfl rfl rfl (by decide) rfl rfl rfl hw292 hG0 g301 trivial (ck_top_ok (G := G) z303) (fun w305 fs306 g307 e308 o309 n310 hw311 n312 => ?_)
          have hs313 := ty_same_tr hs295 (n312 fz (hx_ok hfz (by decide)))
          have hf314 := hF _ _ (n312 pr_ (by decide)) hf293
          refine ax_go 3 (y := (188, [some (.ref o), some (.ref la), some (.int p), some (.int tn), some (.ref z24)], [.ref z24, .ref o, .ref o], w305, 0, 0)) rfl trivial ?_
          refine hx_k (l := 189) (m := 2) rfl rfl (by decide) (fun z315 h316 => ?_)
          refine hx_k (l := 190) (m := 1) rfl rfl (by decide) (fun z317 h318 => ?_)
          refine hx_ci (l := 193) (as := [.ref o, .ref z24, .int z315, .int z317]) rfl rfl (hx_iv (j := 3) (n := 3) (o := o) (r := [.ref o]) rfl rfl g307 rfl) (cc_X0_latestOf_0 (fz := ([(4, 2)] ++ fz)) hF (fun d => h_X7_part0 (fz := ([(4, 2)] ++ fz)) hF (hx_app (by decide +kernel) (fun q hq => (by decide +kernel : ∀ q ∈ fb_hp_X0_ask, q ∈ fb_X7_part0) q (hfz q hq))) d) (fun d => h_X2_value0 (fz := ([(4, 2)] ++ fz)) hF (hx_app (by decide +kernel) (fun q hq => (by decide +kernel : ∀ q ∈ fb_hp_X0_ask, q ∈ fb_X2_value0) q (hfz q hq))) d) (hx_app (by decide +kernel) (fun q hq => (by decide +kernel : ∀ q ∈ fb_hp_X0_ask, q ∈ fr_X0_latestOf_0) q (hfz q hq))) (d + 0)) hw311 hf314 ⟨(hx_tr (G := G) (s := 4) (b := 0) hG0 (by decide)), (hx_tr (G := G) (s := 10) (b := 1) hG31 (by decide)), (ck_top_ok (G := G) z315), (ck_top_ok (G := G) z317), trivial⟩ (fun w319 z324 hw320 hf321 m322 a325 b326 u327 => ?_)
          have hs323 := ty_same_tr hs313 (hx_sapp m322)
          obtain ⟨fs328, g329, -, q330⟩ := hx_obj hw320 hG0 (s := 4) rfl (by decide)
          refine hx_k (l := 194) (m := 1) rfl rfl (by decide) (fun z331 h332 => ?_)
          refine hx_k (l := 196) (m := 9) rfl rfl (by decide) (fun z333 h334 => ?_)
          refine hx_ci (l := 199) (as := [.int z324, .int z331, .int z333]) rfl rfl rfl (cc_X8_bounded_2 (fz := ([(4, 2)] ++ fz)) hF  (hx_app (by decide +kernel) (fun q hq => (by decide +kernel : ∀ q ∈ fb_hp_X0_ask, q ∈ fr_X8_bounded_2) q (hfz q hq))) (d + 2)) hw320 hf321 ⟨(ck_top_ok (G := G) z324), (hx_ti (G := G) (lo := 1) (hi := 1) (by omega) (by omega)), (hx_ti (G := G) (lo := 9) (hi := 9) (by omega) (by omega)), trivial⟩ (fun w335 z340 hw336 hf337 m338 a341 b342 u343 => ?_)
          have hs339 := ty_same_tr hs323 (hx_sapp m338)
          obtain ⟨fs344, g345, -, q346⟩ := hx_obj hw336 hG0 (s := 4) rfl (by decide)
          refine hx_pf (q := (0, 0, 0, 0, (-2147483648), 2147483647)) (s := 4) (l := 202) (v := .int z340) rfl rfl rfl (by decide) rfl rfl rfl hw336 hG0 g345 trivial (ck_top_ok (G := G) z340) (fun w347 fs348 g349 e350 o351 n352 hw353 n354 => ?_)
          have hs355 := ty_same_tr hs339 (n354 fz (hx_ok hfz (by decide)))
          have hf356 := hF _ _ (n354 pr_ (by decide)) hf337
          refine ax_go 3 (y := (206, [some (.ref o), some (.ref la), some (.int p), some (.int tn), some (.ref z24)], [.ref z24, .ref o, .ref o], w347, 0, 0)) rfl trivial ?_
          refine hx_k (l := 207) (m := 3) rfl rfl (by decide) (fun z357 h358 => ?_)
          refine hx_k (l := 208) (m := 0) rfl rfl (by decide) (fun z359 h360 => ?_)
          refine hx_ci (l := 211) (as := [.ref o, .ref z24, .int z357, .int z359]) rfl rfl (hx_iv (j := 3) (n := 3) (o := o) (r := [.ref o]) rfl rfl g349 rfl) (cc_X0_latestOf_0 (fz := ([(4, 2)] ++ fz)) hF (fun d => h_X7_part0 (fz := ([(4, 2)] ++ fz)) hF (hx_app (by decide +kernel) (fun q hq => (by decide +kernel : ∀ q ∈ fb_hp_X0_ask, q ∈ fb_X7_part0) q (hfz q hq))) d) (fun d => h_X2_value0 (fz := ([(4, 2)] ++ fz)) hF (hx_app (by decide +kernel) (fun q hq => (by decide +kernel : ∀ q ∈ fb_hp_X0_ask, q ∈ fb_X2_value0) q (hfz q hq))) d) (hx_app (by decide +kernel) (fun q hq => (by decide +kernel : ∀ q ∈ fb_hp_X0_ask, q ∈ fr_X0_latestOf_0) q (hfz q hq))) (d + 0)) hw353 hf356 ⟨(hx_tr (G := G) (s := 4) (b := 0) hG0 (by decide)), (hx_tr (G := G) (s := 10) (b := 1) hG31 (by decide)), (ck_top_ok (G := G) z357), (ck_top_ok (G := G) z359), trivial⟩ (fun w361 z366 hw362 hf363 m364 a367 b368 u369 => ?_)
          have hs365 := ty_same_tr hs355 (hx_sapp m364)
          obtain ⟨fs370, g371, -, q372⟩ := hx_obj hw362 hG0 (s := 4) rfl (by decide)
          refine hx_if_eq (l := 214) rfl rfl (fun h373 => ?_) (fun h373 => ?_)
          · -- 218
            refine hx_k (l := 219) (m := 0) rfl rfl (by decide) (fun z374 h375 => ?_)
            refine hx_pf (q := (0, 0, 0, 0, 0, 1)) (s := 4) (l := 222) (v := .int z374) rfl rfl rfl (by decide) rfl rfl rfl hw362 hG0 g371 ⟨hx_01 (by omega) (by omega), trivial⟩ (hx_ti (G := G) (lo := 0) (hi := 1) (by omega) (by omega)) (fun w376 fs377 g378 e379 o380 n381 hw382 n383 => ?_)
            have hs384 := ty_same_tr hs365 (n383 fz (hx_ok hfz (by decide)))
            have hf385 := hF _ _ (n383 pr_ (by decide)) hf363
            exact ax_ret rfl rfl trivial ⟨none, _, rfl, hw382, hf385, hs384, trivial, (fun o1 l1 p1 t1 h1 => by cases h1; exact ⟨z213, ⟨_, g378, ((o380 2 (by decide)).trans ((hx_kf m364 (hx_mem hG0 (by decide)) g349 g371).trans ((o351 2 (by decide)).trans ((hx_kf m338 (hx_mem hG0 (by decide)) g329 g345).trans ((hx_kf m322 (hx_mem hG0 (by decide)) g307 g329).trans ((o309 2 (by decide)).trans ((hx_kf m294 (hx_mem hG0 (by decide)) g285 g301).trans ((hx_kf m278 (hx_mem hG0 (by decide)) ((n266 _ (hx_ne hG0 hG255 (by decide))).trans g244) g285).trans ((o246 2 (by decide)).trans e223)))))))))⟩, by omega, by omega⟩)⟩
          · -- 214
            refine hx_k (l := 215) (m := 1) rfl rfl (by decide) (fun z386 h387 => ?_)
            refine ax_go 1 (y := (219, [some (.ref o), some (.ref la), some (.int p), some (.int tn), some (.ref z24)], [.int z386, .ref o], w361, 0, 0)) rfl trivial ?_
            refine hx_pf (q := (0, 0, 0, 0, 0, 1)) (s := 4) (l := 222) (v := .int z386) rfl rfl rfl (by decide) rfl rfl rfl hw362 hG0 g371 ⟨hx_01 (by omega) (by omega), trivial⟩ (hx_ti (G := G) (lo := 0) (hi := 1) (by omega) (by omega)) (fun w388 fs389 g390 e391 o392 n393 hw394 n395 => ?_)
            have hs396 := ty_same_tr hs365 (n395 fz (hx_ok hfz (by decide)))
            have hf397 := hF _ _ (n395 pr_ (by decide)) hf363
            exact ax_ret rfl rfl trivial ⟨none, _, rfl, hw394, hf397, hs396, trivial, (fun o1 l1 p1 t1 h1 => by cases h1; exact ⟨z213, ⟨_, g390, ((o392 2 (by decide)).trans ((hx_kf m364 (hx_mem hG0 (by decide)) g349 g371).trans ((o351 2 (by decide)).trans ((hx_kf m338 (hx_mem hG0 (by decide)) g329 g345).trans ((hx_kf m322 (hx_mem hG0 (by decide)) g307 g329).trans ((o309 2 (by decide)).trans ((hx_kf m294 (hx_mem hG0 (by decide)) g285 g301).trans ((hx_kf m278 (hx_mem hG0 (by decide)) ((n266 _ (hx_ne hG0 hG255 (by decide))).trans g244) g285).trans ((o246 2 (by decide)).trans e223)))))))))⟩, by omega, by omega⟩)⟩
        · -- 108
          refine ax_go 2 (y := (125, [some (.ref o), some (.ref la), some (.int p), some (.int tn), some (.ref z24)], [.int tn, .ref o], w178, 0, 0)) rfl trivial ?_
          refine hx_k (l := 126) (m := 2) rfl rfl (by decide) (fun z398 h399 => ?_)
          refine hx_k (l := 128) (m := 99) rfl rfl (by decide) (fun z400 h401 => ?_)
          refine hx_ci (l := 131) (as := [.int tn, .int z398, .int z400]) rfl rfl rfl (cc_X8_bounded_0 (fz := ([(4, 2)] ++ fz)) hF  (hx_app (by decide +kernel) (fun q hq => (by decide +kernel : ∀ q ∈ fb_hp_X0_ask, q ∈ fr_X8_bounded_0) q (hfz q hq))) (d + 2)) hw184 hf187 ⟨(ck_top_ok (G := G) tn), (hx_ti (G := G) (lo := 2) (hi := 2) (by omega) (by omega)), (hx_ti (G := G) (lo := 99) (hi := 99) (by omega) (by omega)), trivial⟩ (fun w402 z407 hw403 hf404 m405 a408 b409 u410 => ?_)
          have hs406 := ty_same_tr hs186 (hx_sapp m405)
          obtain ⟨fs411, g412, -, q413⟩ := hx_obj hw403 hG0 (s := 4) rfl (by decide)
          refine hx_pf (q := (0, 0, 0, 0, (-2147483648), 2147483647)) (s := 4) (l := 134) (v := .int z407) rfl rfl rfl (by decide) rfl rfl rfl hw403 hG0 g412 trivial (ck_top_ok (G := G) z407) (fun w414 fs415 g416 e417 o418 n419 hw420 n421 => ?_)
          have hs422 := ty_same_tr hs406 (n421 fz (hx_ok hfz (by decide)))
          have hf423 := hF _ _ (n421 pr_ (by decide)) hf404
          refine ax_go 2 (y := (136, [some (.ref o), some (.ref la), some (.int p), some (.int tn), some (.ref z24)], [.ref la, .ref o], w414, 0, 0)) rfl trivial ?_
          obtain ⟨fs424, g425, -, q426⟩ := hx_obj hw420 hG1 (s := 2) rfl (by decide)
          obtain ⟨p427, e428, hG429⟩ := hx_fr (k := 2) (s := 11) q426 rfl
          refine hx_gf (l := 139) rfl rfl rfl g425 e428 ?_
          refine ax_go 1 (y := (140, [some (.ref o), some (.ref la), some (.int p), some (.int tn), some (.ref z24)], [.int p, .ref p427, .ref o], w414, 0, 0)) rfl trivial ?_
          obtain ⟨f430, g431, r432⟩ := hx_row hw420 hG429 (s := 11) (kd := 0) (n := 10) rfl (by decide)
          refine hx_il (l := 141) rfl rfl g431 (by omega) (by omega) (fun z433 h434 => ?_)
          refine ax_go 1 (y := (142, [some (.ref o), some (.ref la), some (.int p), some (.int tn), some (.ref z24)], [.ref o, .int z433, .ref o], w414, 0, 0)) rfl trivial ?_
          refine hx_gf (l := 145) rfl rfl rfl g416 e417 ?_
          refine hx_idv (l := 146) rfl (by simp) rfl (by omega) (fun z435 => ?_)
          refine hx_pf (q := (0, 0, 0, 0, (-2147483648), 2147483647)) (s := 4) (l := 149) (v := .int z435) rfl rfl rfl (by decide) rfl rfl rfl hw420 hG0 g416 trivial (ck_top_ok (G := G) z435) (fun w436 fs437 g438 e439 o440 n441 hw442 n443 => ?_)
          have hs444 := ty_same_tr hs422 (n443 fz (hx_ok hfz (by decide)))
          have hf445 := hF _ _ (n443 pr_ (by decide)) hf423
          refine ax_go 1 (y := (150, [some (.ref o), some (.ref la), some (.int p), some (.int tn), some (.ref z24)], [.ref o], w436, 0, 0)) rfl trivial ?_
          have q446 := hx_oq hw442 g438 hG0 (s := 4) rfl
          obtain ⟨p447, e448, hG449⟩ := hx_fr (k := 1) (s := 14) q446 rfl
          refine hx_gf (l := 153) rfl rfl rfl g438 e448 ?_
          refine hx_k (l := 154) (m := 2) rfl rfl (by decide) (fun z450 h451 => ?_)
          refine ax_go 1 (y := (155, [some (.ref o), some (.ref la), some (.int p), some (.int tn), some (.ref z24)], [.ref o, .int z450, .ref p447], w436, 0, 0)) rfl trivial ?_
          refine hx_gf (l := 158) rfl rfl rfl g438 e439 ?_
          obtain ⟨f452, g453, r454⟩ := hx_row hw442 hG449 (s := 14) (kd := 0) (n := 8) rfl (by decide)
          refine hx_is (s := 14) (l := 159) rfl rfl rfl hw442 hG449 g453 (by omega) (by omega) hx_sg0 (fun w455 f456 g457 e458 o459 n460 hw461 n462 => ?_)
          have hs463 := ty_same_tr hs444 (n462 fz (hx_ok hfz (by decide)))
          have hf464 := hF _ _ (n462 pr_ (by decide)) hf445
          refine ax_go 2 (y := (161, [some (.ref o), some (.ref la), some (.int p), some (.int tn), some (.ref z24)], [.ref o, .ref o], w455, 0, 0)) rfl trivial ?_
          refine hx_gf (l := 164) rfl rfl rfl ((n460 _ (hx_ne hG0 hG449 (by decide))).trans g438) e439 ?_
          refine ax_go 2 (y := (167, [some (.ref o), some (.ref la), some (.int p), some (.int tn), some (.ref z24)], [.ref z24, .ref o, .int z435, .ref o], w455, 0, 0)) rfl trivial ?_
          refine hx_k (l := 168) (m := 1) rfl rfl (by decide) (fun z465 h466 => ?_)
          refine hx_k (l := 169) (m := 0) rfl rfl (by decide) (fun z467 h468 => ?_)
          refine hx_ci (l := 172) (as := [.ref o, .ref z24, .int z465, .int z467]) rfl rfl (hx_iv (j := 3) (n := 3) (o := o) (r := [.int z435, .ref o]) rfl rfl ((n460 _ (hx_ne hG0 hG449 (by decide))).trans g438) rfl) (cc_X0_latestOf_0 (fz := ([(4, 2)] ++ fz)) hF (fun d => h_X7_part0 (fz := ([(4, 2)] ++ fz)) hF (hx_app (by decide +kernel) (fun q hq => (by decide +kernel : ∀ q ∈ fb_hp_X0_ask, q ∈ fb_X7_part0) q (hfz q hq))) d) (fun d => h_X2_value0 (fz := ([(4, 2)] ++ fz)) hF (hx_app (by decide +kernel) (fun q hq => (by decide +kernel : ∀ q ∈ fb_hp_X0_ask, q ∈ fb_X2_value0) q (hfz q hq))) d) (hx_app (by decide +kernel) (fun q hq => (by decide +kernel : ∀ q ∈ fb_hp_X0_ask, q ∈ fr_X0_latestOf_0) q (hfz q hq))) (d + 0)) hw461 hf464 ⟨(hx_tr (G := G) (s := 4) (b := 0) hG0 (by decide)), (hx_tr (G := G) (s := 10) (b := 1) hG31 (by decide)), (ck_top_ok (G := G) z465), (ck_top_ok (G := G) z467), trivial⟩ (fun w469 z474 hw470 hf471 m472 a475 b476 u477 => ?_)
          have hs473 := ty_same_tr hs463 (hx_sapp m472)
          obtain ⟨fs478, g479, -, q480⟩ := hx_obj hw470 hG0 (s := 4) rfl (by decide)
          refine hx_k (l := 173) (m := 0) rfl rfl (by decide) (fun z481 h482 => ?_)
          refine hx_k (l := 175) (m := 98) rfl rfl (by decide) (fun z483 h484 => ?_)
          refine hx_ci (l := 178) (as := [.int z474, .int z481, .int z483]) rfl rfl rfl (cc_X8_bounded_1 (fz := ([(4, 2)] ++ fz)) hF  (hx_app (by decide +kernel) (fun q hq => (by decide +kernel : ∀ q ∈ fb_hp_X0_ask, q ∈ fr_X8_bounded_1) q (hfz q hq))) (d + 2)) hw470 hf471 ⟨(ck_top_ok (G := G) z474), (hx_ti (G := G) (lo := 0) (hi := 0) (by omega) (by omega)), (hx_ti (G := G) (lo := 98) (hi := 98) (by omega) (by omega)), trivial⟩ (fun w485 z490 hw486 hf487 m488 a491 b492 u493 => ?_)
          have hs489 := ty_same_tr hs473 (hx_sapp m488)
          obtain ⟨fs494, g495, -, q496⟩ := hx_obj hw486 hG0 (s := 4) rfl (by decide)
          refine hx_min (l := 181) rfl rfl (by decide) rfl (fun z497 h498 => ?_)
          refine hx_pf (q := (0, 0, 0, 0, (-2147483648), 2147483647)) (s := 4) (l := 184) (v := .int z497) rfl rfl rfl (by decide) rfl rfl rfl hw486 hG0 g495 trivial (ck_top_ok (G := G) z497) (fun w499 fs500 g501 e502 o503 n504 hw505 n506 => ?_)
          have hs507 := ty_same_tr hs489 (n506 fz (hx_ok hfz (by decide)))
          have hf508 := hF _ _ (n506 pr_ (by decide)) hf487
          refine ax_go 3 (y := (188, [some (.ref o), some (.ref la), some (.int p), some (.int tn), some (.ref z24)], [.ref z24, .ref o, .ref o], w499, 0, 0)) rfl trivial ?_
          refine hx_k (l := 189) (m := 2) rfl rfl (by decide) (fun z509 h510 => ?_)
          refine hx_k (l := 190) (m := 1) rfl rfl (by decide) (fun z511 h512 => ?_)
          refine hx_ci (l := 193) (as := [.ref o, .ref z24, .int z509, .int z511]) rfl rfl (hx_iv (j := 3) (n := 3) (o := o) (r := [.ref o]) rfl rfl g501 rfl) (cc_X0_latestOf_0 (fz := ([(4, 2)] ++ fz)) hF (fun d => h_X7_part0 (fz := ([(4, 2)] ++ fz)) hF (hx_app (by decide +kernel) (fun q hq => (by decide +kernel : ∀ q ∈ fb_hp_X0_ask, q ∈ fb_X7_part0) q (hfz q hq))) d) (fun d => h_X2_value0 (fz := ([(4, 2)] ++ fz)) hF (hx_app (by decide +kernel) (fun q hq => (by decide +kernel : ∀ q ∈ fb_hp_X0_ask, q ∈ fb_X2_value0) q (hfz q hq))) d) (hx_app (by decide +kernel) (fun q hq => (by decide +kernel : ∀ q ∈ fb_hp_X0_ask, q ∈ fr_X0_latestOf_0) q (hfz q hq))) (d + 0)) hw505 hf508 ⟨(hx_tr (G := G) (s := 4) (b := 0) hG0 (by decide)), (hx_tr (G := G) (s := 10) (b := 1) hG31 (by decide)), (ck_top_ok (G := G) z509), (ck_top_ok (G := G) z511), trivial⟩ (fun w513 z518 hw514 hf515 m516 a519 b520 u521 => ?_)
          have hs517 := ty_same_tr hs507 (hx_sapp m516)
          obtain ⟨fs522, g523, -, q524⟩ := hx_obj hw514 hG0 (s := 4) rfl (by decide)
          refine hx_k (l := 194) (m := 1) rfl rfl (by decide) (fun z525 h526 => ?_)
          refine hx_k (l := 196) (m := 9) rfl rfl (by decide) (fun z527 h528 => ?_)
          refine hx_ci (l := 199) (as := [.int z518, .int z525, .int z527]) rfl rfl rfl (cc_X8_bounded_2 (fz := ([(4, 2)] ++ fz)) hF  (hx_app (by decide +kernel) (fun q hq => (by decide +kernel : ∀ q ∈ fb_hp_X0_ask, q ∈ fr_X8_bounded_2) q (hfz q hq))) (d + 2)) hw514 hf515 ⟨(ck_top_ok (G := G) z518), (hx_ti (G := G) (lo := 1) (hi := 1) (by omega) (by omega)), (hx_ti (G := G) (lo := 9) (hi := 9) (by omega) (by omega)), trivial⟩ (fun w529 z534 hw530 hf531 m532 a535 b536 u537 => ?_)
          have hs533 := ty_same_tr hs517 (hx_sapp m532)
          obtain ⟨fs538, g539, -, q540⟩ := hx_obj hw530 hG0 (s := 4) rfl (by decide)
          refine hx_pf (q := (0, 0, 0, 0, (-2147483648), 2147483647)) (s := 4) (l := 202) (v := .int z534) rfl rfl rfl (by decide) rfl rfl rfl hw530 hG0 g539 trivial (ck_top_ok (G := G) z534) (fun w541 fs542 g543 e544 o545 n546 hw547 n548 => ?_)
          have hs549 := ty_same_tr hs533 (n548 fz (hx_ok hfz (by decide)))
          have hf550 := hF _ _ (n548 pr_ (by decide)) hf531
          refine ax_go 3 (y := (206, [some (.ref o), some (.ref la), some (.int p), some (.int tn), some (.ref z24)], [.ref z24, .ref o, .ref o], w541, 0, 0)) rfl trivial ?_
          refine hx_k (l := 207) (m := 3) rfl rfl (by decide) (fun z551 h552 => ?_)
          refine hx_k (l := 208) (m := 0) rfl rfl (by decide) (fun z553 h554 => ?_)
          refine hx_ci (l := 211) (as := [.ref o, .ref z24, .int z551, .int z553]) rfl rfl (hx_iv (j := 3) (n := 3) (o := o) (r := [.ref o]) rfl rfl g543 rfl) (cc_X0_latestOf_0 (fz := ([(4, 2)] ++ fz)) hF (fun d => h_X7_part0 (fz := ([(4, 2)] ++ fz)) hF (hx_app (by decide +kernel) (fun q hq => (by decide +kernel : ∀ q ∈ fb_hp_X0_ask, q ∈ fb_X7_part0) q (hfz q hq))) d) (fun d => h_X2_value0 (fz := ([(4, 2)] ++ fz)) hF (hx_app (by decide +kernel) (fun q hq => (by decide +kernel : ∀ q ∈ fb_hp_X0_ask, q ∈ fb_X2_value0) q (hfz q hq))) d) (hx_app (by decide +kernel) (fun q hq => (by decide +kernel : ∀ q ∈ fb_hp_X0_ask, q ∈ fr_X0_latestOf_0) q (hfz q hq))) (d + 0)) hw547 hf550 ⟨(hx_tr (G := G) (s := 4) (b := 0) hG0 (by decide)), (hx_tr (G := G) (s := 10) (b := 1) hG31 (by decide)), (ck_top_ok (G := G) z551), (ck_top_ok (G := G) z553), trivial⟩ (fun w555 z560 hw556 hf557 m558 a561 b562 u563 => ?_)
          have hs559 := ty_same_tr hs549 (hx_sapp m558)
          obtain ⟨fs564, g565, -, q566⟩ := hx_obj hw556 hG0 (s := 4) rfl (by decide)
          refine hx_if_eq (l := 214) rfl rfl (fun h567 => ?_) (fun h567 => ?_)
          · -- 218
            refine hx_k (l := 219) (m := 0) rfl rfl (by decide) (fun z568 h569 => ?_)
            refine hx_pf (q := (0, 0, 0, 0, 0, 1)) (s := 4) (l := 222) (v := .int z568) rfl rfl rfl (by decide) rfl rfl rfl hw556 hG0 g565 ⟨hx_01 (by omega) (by omega), trivial⟩ (hx_ti (G := G) (lo := 0) (hi := 1) (by omega) (by omega)) (fun w570 fs571 g572 e573 o574 n575 hw576 n577 => ?_)
            have hs578 := ty_same_tr hs559 (n577 fz (hx_ok hfz (by decide)))
            have hf579 := hF _ _ (n577 pr_ (by decide)) hf557
            exact ax_ret rfl rfl trivial ⟨none, _, rfl, hw576, hf579, hs578, trivial, (fun o1 l1 p1 t1 h1 => by cases h1; exact ⟨z407, ⟨_, g572, ((o574 2 (by decide)).trans ((hx_kf m558 (hx_mem hG0 (by decide)) g543 g565).trans ((o545 2 (by decide)).trans ((hx_kf m532 (hx_mem hG0 (by decide)) g523 g539).trans ((hx_kf m516 (hx_mem hG0 (by decide)) g501 g523).trans ((o503 2 (by decide)).trans ((hx_kf m488 (hx_mem hG0 (by decide)) g479 g495).trans ((hx_kf m472 (hx_mem hG0 (by decide)) ((n460 _ (hx_ne hG0 hG449 (by decide))).trans g438) g479).trans ((o440 2 (by decide)).trans e417)))))))))⟩, by omega, by omega⟩)⟩
          · -- 214
            refine hx_k (l := 215) (m := 1) rfl rfl (by decide) (fun z580 h581 => ?_)
            refine ax_go 1 (y := (219, [some (.ref o), some (.ref la), some (.int p), some (.int tn), some (.ref z24)], [.int z580, .ref o], w555, 0, 0)) rfl trivial ?_
            refine hx_pf (q := (0, 0, 0, 0, 0, 1)) (s := 4) (l := 222) (v := .int z580) rfl rfl rfl (by decide) rfl rfl rfl hw556 hG0 g565 ⟨hx_01 (by omega) (by omega), trivial⟩ (hx_ti (G := G) (lo := 0) (hi := 1) (by omega) (by omega)) (fun w582 fs583 g584 e585 o586 n587 hw588 n589 => ?_)
            have hs590 := ty_same_tr hs559 (n589 fz (hx_ok hfz (by decide)))
            have hf591 := hF _ _ (n589 pr_ (by decide)) hf557
            exact ax_ret rfl rfl trivial ⟨none, _, rfl, hw588, hf591, hs590, trivial, (fun o1 l1 p1 t1 h1 => by cases h1; exact ⟨z407, ⟨_, g584, ((o586 2 (by decide)).trans ((hx_kf m558 (hx_mem hG0 (by decide)) g543 g565).trans ((o545 2 (by decide)).trans ((hx_kf m532 (hx_mem hG0 (by decide)) g523 g539).trans ((hx_kf m516 (hx_mem hG0 (by decide)) g501 g523).trans ((o503 2 (by decide)).trans ((hx_kf m488 (hx_mem hG0 (by decide)) g479 g495).trans ((hx_kf m472 (hx_mem hG0 (by decide)) ((n460 _ (hx_ne hG0 hG449 (by decide))).trans g438) g479).trans ((o440 2 (by decide)).trans e417)))))))))⟩, by omega, by omega⟩)⟩
      · -- a reference or null
        change ab_wp ro (ab_Ev ro ab_codes (d + 3)) 0 false none ab_k_X0_ask (fun o_1 => ∃ v w1, o_1 = (v, w1, 0, 0) ∧ ty_w sp_ G w1 ∧ F w1 ∧ ty_same G fz w w1 ∧ ck_res G none v ∧ (fun as _ _ w1 => ∀ (o la : Nat) (p t : Int32), as = [.ref o, .ref la, .int p, .int t] → ∃ z : Int32, hx_has w1 o 0 2 (.int z) ∧ 2 ≤ z.toInt ∧ z.toInt ≤ 99) ([.ref o, .ref la, .int p, .int tn] : List Value) w v w1) (13, [some (.ref o), some (.ref la), some (.int p), some (.int tn), none], [.null], w19, 0, 0)
        refine ax_go 2 (y := (16, [some (.ref o), some (.ref la), some (.int p), some (.int tn), some (.null)], [.ref o], w19, 0, 0)) rfl trivial ?_
        obtain ⟨fs592, g593, -, q594⟩ := hx_obj hw20 hG0 (s := 4) rfl (by decide)
        obtain ⟨p595, e596, hG597⟩ := hx_fr (k := 1) (s := 14) q594 rfl
        refine hx_gf (l := 19) rfl rfl rfl g593 e596 ?_
        refine hx_k (l := 20) (m := 0) rfl rfl (by decide) (fun z598 h599 => ?_)
        refine ax_go 1 (y := (21, [some (.ref o), some (.ref la), some (.int p), some (.int tn), some (.null)], [.int p, .int z598, .ref p595], w19, 0, 0)) rfl trivial ?_
        obtain ⟨f600, g601, r602⟩ := hx_row hw20 hG597 (s := 14) (kd := 0) (n := 8) rfl (by decide)
        refine hx_is (s := 14) (l := 22) rfl rfl rfl hw20 hG597 g601 (by omega) (by omega) hx_sg0 (fun w603 f604 g605 e606 o607 n608 hw609 n610 => ?_)
        have hs611 := ty_same_tr hs23 (n610 fz (hx_ok hfz (by decide)))
        have hf612 := hF _ _ (n610 pr_ (by decide)) hf21
        refine ax_go 1 (y := (23, [some (.ref o), some (.ref la), some (.int p), some (.int tn), some (.null)], [.ref o], w603, 0, 0)) rfl trivial ?_
        refine hx_gf (l := 26) rfl rfl rfl ((n608 _ (hx_ne hG0 hG597 (by decide))).trans g593) e596 ?_
        refine hx_k (l := 27) (m := 1) rfl rfl (by decide) (fun z613 h614 => ?_)
        refine ax_go 1 (y := (28, [some (.ref o), some (.ref la), some (.int p), some (.int tn), some (.null)], [.ref la, .int z613, .ref p595], w603, 0, 0)) rfl trivial ?_
        obtain ⟨fs615, g616, -, q617⟩ := hx_obj hw609 hG1 (s := 2) rfl (by decide)
        obtain ⟨p618, e619, hG620⟩ := hx_fr (k := 2) (s := 11) q617 rfl
        refine hx_gf (l := 31) rfl rfl rfl g616 e619 ?_
        refine ax_go 1 (y := (32, [some (.ref o), some (.ref la), some (.int p), some (.int tn), some (.null)], [.int p, .ref p618, .int z613, .ref p595], w603, 0, 0)) rfl trivial ?_
        obtain ⟨f621, g622, r623⟩ := hx_row hw609 hG620 (s := 11) (kd := 0) (n := 10) rfl (by decide)
        refine hx_il (l := 33) rfl rfl g622 (by omega) (by omega) (fun z624 h625 => ?_)
        refine hx_is (s := 14) (l := 34) rfl rfl rfl hw609 hG597 g605 (by omega) (by omega) hx_sg0 (fun w626 f627 g628 e629 o630 n631 hw632 n633 => ?_)
        have hs634 := ty_same_tr hs611 (n633 fz (hx_ok hfz (by decide)))
        have hf635 := hF _ _ (n633 pr_ (by decide)) hf612
        refine ax_go 1 (y := (35, [some (.ref o), some (.ref la), some (.int p), some (.int tn), some (.null)], [.ref o], w626, 0, 0)) rfl trivial ?_
        refine hx_gf (l := 38) rfl rfl rfl ((n631 _ (hx_ne hG0 hG597 (by decide))).trans ((n608 _ (hx_ne hG0 hG597 (by decide))).trans g593)) e596 ?_
        refine hx_k (l := 39) (m := 2) rfl rfl (by decide) (fun z636 h637 => ?_)
        refine hx_k (l := 40) (m := (-1)) rfl rfl (by decide) (fun z638 h639 => ?_)
        refine hx_is (s := 14) (l := 41) rfl rfl rfl hw632 hG597 g628 (by omega) (by omega) hx_sg0 (fun w640 f641 g642 e643 o644 n645 hw646 n647 => ?_)
        have hs648 := ty_same_tr hs634 (n647 fz (hx_ok hfz (by decide)))
        have hf649 := hF _ _ (n647 pr_ (by decide)) hf635
        refine ax_go 1 (y := (42, [some (.ref o), some (.ref la), some (.int p), some (.int tn), some (.null)], [.ref o], w640, 0, 0)) rfl trivial ?_
        refine hx_gf (l := 45) rfl rfl rfl ((n645 _ (hx_ne hG0 hG597 (by decide))).trans ((n631 _ (hx_ne hG0 hG597 (by decide))).trans ((n608 _ (hx_ne hG0 hG597 (by decide))).trans g593))) e596 ?_
        refine hx_k (l := 46) (m := 3) rfl rfl (by decide) (fun z650 h651 => ?_)
        refine ax_go 1 (y := (47, [some (.ref o), some (.ref la), some (.int p), some (.int tn), some (.null)], [.ref la, .int z650, .ref p595], w640, 0, 0)) rfl trivial ?_
        obtain ⟨p652, e653, hG654⟩ := hx_fr (k := 0) (s := 11) q617 rfl
        refine hx_gf (l := 50) rfl rfl rfl ((n645 _ (hx_ne hG1 hG597 (by decide))).trans ((n631 _ (hx_ne hG1 hG597 (by decide))).trans g616)) e653 ?_
        refine ax_go 1 (y := (51, [some (.ref o), some (.ref la), some (.int p), some (.int tn), some (.null)], [.int p, .ref p652, .int z650, .ref p595], w640, 0, 0)) rfl trivial ?_
        obtain ⟨f655, g656, r657⟩ := hx_row hw646 hG654 (s := 11) (kd := 0) (n := 10) rfl (by decide)
        refine hx_il (l := 52) rfl rfl g656 (by omega) (by omega) (fun z658 h659 => ?_)
        refine hx_is (s := 14) (l := 53) rfl rfl rfl hw646 hG597 g642 (by omega) (by omega) hx_sg0 (fun w660 f661 g662 e663 o664 n665 hw666 n667 => ?_)
        have hs668 := ty_same_tr hs648 (n667 fz (hx_ok hfz (by decide)))
        have hf669 := hF _ _ (n667 pr_ (by decide)) hf649
        refine ax_go 1 (y := (54, [some (.ref o), some (.ref la), some (.int p), some (.int tn), some (.null)], [.ref o], w660, 0, 0)) rfl trivial ?_
        refine hx_gf (l := 57) rfl rfl rfl ((n665 _ (hx_ne hG0 hG597 (by decide))).trans ((n645 _ (hx_ne hG0 hG597 (by decide))).trans ((n631 _ (hx_ne hG0 hG597 (by decide))).trans ((n608 _ (hx_ne hG0 hG597 (by decide))).trans g593)))) e596 ?_
        refine hx_k (l := 58) (m := 4) rfl rfl (by decide) (fun z670 h671 => ?_)
        refine ax_go 1 (y := (59, [some (.ref o), some (.ref la), some (.int p), some (.int tn), some (.null)], [.ref la, .int z670, .ref p595], w660, 0, 0)) rfl trivial ?_
        obtain ⟨p672, e673, hG674⟩ := hx_fr (k := 1) (s := 11) q617 rfl
        refine hx_gf (l := 62) rfl rfl rfl ((n665 _ (hx_ne hG1 hG597 (by decide))).trans ((n645 _ (hx_ne hG1 hG597 (by decide))).trans ((n631 _ (hx_ne hG1 hG597 (by decide))).trans g616))) e673 ?_
        refine ax_go 1 (y := (63, [some (.ref o), some (.ref la), some (.int p), some (.int tn), some (.null)], [.int p, .ref p672, .int z670, .ref p595], w660, 0, 0)) rfl trivial ?_
        obtain ⟨f675, g676, r677⟩ := hx_row hw666 hG674 (s := 11) (kd := 0) (n := 10) rfl (by decide)
        refine hx_il (l := 64) rfl rfl g676 (by omega) (by omega) (fun z678 h679 => ?_)
        refine hx_is (s := 14) (l := 65) rfl rfl rfl hw666 hG597 g662 (by omega) (by omega) hx_sg0 (fun w680 f681 g682 e683 o684 n685 hw686 n687 => ?_)
        have hs688 := ty_same_tr hs668 (n687 fz (hx_ok hfz (by decide)))
        have hf689 := hF _ _ (n687 pr_ (by decide)) hf669
        refine ax_go 1 (y := (66, [some (.ref o), some (.ref la), some (.int p), some (.int tn), some (.null)], [.ref o], w680, 0, 0)) rfl trivial ?_
        refine hx_gf (l := 69) rfl rfl rfl ((n685 _ (hx_ne hG0 hG597 (by decide))).trans ((n665 _ (hx_ne hG0 hG597 (by decide))).trans ((n645 _ (hx_ne hG0 hG597 (by decide))).trans ((n631 _ (hx_ne hG0 hG597 (by decide))).trans ((n608 _ (hx_ne hG0 hG597 (by decide))).trans g593))))) e596 ?_
        refine hx_k (l := 70) (m := 5) rfl rfl (by decide) (fun z690 h691 => ?_)
        refine ax_go 1 (y := (71, [some (.ref o), some (.ref la), some (.int p), some (.int tn), some (.null)], [.ref la, .int z690, .ref p595], w680, 0, 0)) rfl trivial ?_
        obtain ⟨p692, e693, hG694⟩ := hx_fr (k := 3) (s := 11) q617 rfl
        refine hx_gf (l := 74) rfl rfl rfl ((n685 _ (hx_ne hG1 hG597 (by decide))).trans ((n665 _ (hx_ne hG1 hG597 (by decide))).trans ((n645 _ (hx_ne hG1 hG597 (by decide))).trans ((n631 _ (hx_ne hG1 hG597 (by decide))).trans g616)))) e693 ?_
        refine ax_go 1 (y := (75, [some (.ref o), some (.ref la), some (.int p), some (.int tn), some (.null)], [.int p, .ref p692, .int z690, .ref p595], w680, 0, 0)) rfl trivial ?_
        obtain ⟨f695, g696, r697⟩ := hx_row hw686 hG694 (s := 11) (kd := 0) (n := 10) rfl (by decide)
        refine hx_il (l := 76) rfl rfl g696 (by omega) (by omega) (fun z698 h699 => ?_)
        refine hx_is (s := 14) (l := 77) rfl rfl rfl hw686 hG597 g682 (by omega) (by omega) hx_sg0 (fun w700 f701 g702 e703 o704 n705 hw706 n707 => ?_)
        have hs708 := ty_same_tr hs688 (n707 fz (hx_ok hfz (by decide)))
        have hf709 := hF _ _ (n707 pr_ (by decide)) hf689
        refine ax_go 1 (y := (78, [some (.ref o), some (.ref la), some (.int p), some (.int tn), some (.null)], [.ref o], w700, 0, 0)) rfl trivial ?_
        refine hx_gf (l := 81) rfl rfl rfl ((n705 _ (hx_ne hG0 hG597 (by decide))).trans ((n685 _ (hx_ne hG0 hG597 (by decide))).trans ((n665 _ (hx_ne hG0 hG597 (by decide))).trans ((n645 _ (hx_ne hG0 hG597 (by decide))).trans ((n631 _ (hx_ne hG0 hG597 (by decide))).trans ((n608 _ (hx_ne hG0 hG597 (by decide))).trans g593)))))) e596 ?_
        refine hx_k (l := 83) (m := 6) rfl rfl (by decide) (fun z710 h711 => ?_)
        refine ax_go 1 (y := (84, [some (.ref o), some (.ref la), some (.int p), some (.int tn), some (.null)], [.ref la, .int z710, .ref p595], w700, 0, 0)) rfl trivial ?_
        obtain ⟨p712, e713, hG714⟩ := hx_fr (k := 7) (s := 13) q617 rfl
        refine hx_gf (l := 87) rfl rfl rfl ((n705 _ (hx_ne hG1 hG597 (by decide))).trans ((n685 _ (hx_ne hG1 hG597 (by decide))).trans ((n665 _ (hx_ne hG1 hG597 (by decide))).trans ((n645 _ (hx_ne hG1 hG597 (by decide))).trans ((n631 _ (hx_ne hG1 hG597 (by decide))).trans g616))))) e713 ?_
        refine hx_k (l := 88) (m := 0) rfl rfl (by decide) (fun z715 h716 => ?_)
        obtain ⟨f717, g718, r719⟩ := hx_row hw706 hG714 (s := 13) (kd := 0) (n := 4) rfl (by decide)
        refine hx_il (l := 89) rfl rfl g718 (by omega) (by omega) (fun z720 h721 => ?_)
        refine hx_is (s := 14) (l := 90) rfl rfl rfl hw706 hG597 g702 (by omega) (by omega) hx_sg0 (fun w722 f723 g724 e725 o726 n727 hw728 n729 => ?_)
        have hs730 := ty_same_tr hs708 (n729 fz (hx_ok hfz (by decide)))
        have hf731 := hF _ _ (n729 pr_ (by decide)) hf709
        refine ax_go 1 (y := (91, [some (.ref o), some (.ref la), some (.int p), some (.int tn), some (.null)], [.ref o], w722, 0, 0)) rfl trivial ?_
        refine hx_gf (l := 94) rfl rfl rfl ((n727 _ (hx_ne hG0 hG597 (by decide))).trans ((n705 _ (hx_ne hG0 hG597 (by decide))).trans ((n685 _ (hx_ne hG0 hG597 (by decide))).trans ((n665 _ (hx_ne hG0 hG597 (by decide))).trans ((n645 _ (hx_ne hG0 hG597 (by decide))).trans ((n631 _ (hx_ne hG0 hG597 (by decide))).trans ((n608 _ (hx_ne hG0 hG597 (by decide))).trans g593))))))) e596 ?_
        refine hx_k (l := 96) (m := 7) rfl rfl (by decide) (fun z732 h733 => ?_)
        refine ax_go 1 (y := (97, [some (.ref o), some (.ref la), some (.int p), some (.int tn), some (.null)], [.ref la, .int z732, .ref p595], w722, 0, 0)) rfl trivial ?_
        refine hx_gf (l := 100) rfl rfl rfl ((n727 _ (hx_ne hG1 hG597 (by decide))).trans ((n705 _ (hx_ne hG1 hG597 (by decide))).trans ((n685 _ (hx_ne hG1 hG597 (by decide))).trans ((n665 _ (hx_ne hG1 hG597 (by decide))).trans ((n645 _ (hx_ne hG1 hG597 (by decide))).trans ((n631 _ (hx_ne hG1 hG597 (by decide))).trans g616)))))) e713 ?_
        refine hx_k (l := 101) (m := 3) rfl rfl (by decide) (fun z734 h735 => ?_)
        refine hx_il (l := 102) rfl rfl ((n727 _ (hx_ne hG714 hG597 (by decide))).trans g718) (by omega) (by omega) (fun z736 h737 => ?_)
        refine hx_is (s := 14) (l := 103) rfl rfl rfl hw728 hG597 g724 (by omega) (by omega) hx_sg0 (fun w738 f739 g740 e741 o742 n743 hw744 n745 => ?_)
        have hs746 := ty_same_tr hs730 (n745 fz (hx_ok hfz (by decide)))
        have hf747 := hF _ _ (n745 pr_ (by decide)) hf731
        refine ax_go 2 (y := (105, [some (.ref o), some (.ref la), some (.int p), some (.int tn), some (.null)], [.int tn, .ref o], w738, 0, 0)) rfl trivial ?_
        refine hx_if_le (l := 108) rfl rfl (fun h748 => ?_) (fun h748 => ?_)
        · -- 112
          refine ax_go 2 (y := (115, [some (.ref o), some (.ref la), some (.int p), some (.int tn), some (.null)], [.null, .ref o, .ref o], w738, 0, 0)) rfl trivial ?_
          refine hx_k (l := 116) (m := 0) rfl rfl (by decide) (fun z749 h750 => ?_)
          refine ax_go 1 (y := (117, [some (.ref o), some (.ref la), some (.int p), some (.int tn), some (.null)], [.ref la, .int z749, .null, .ref o, .ref o], w738, 0, 0)) rfl trivial ?_
          refine hx_gf (l := 120) rfl rfl rfl ((n743 _ (hx_ne hG1 hG597 (by decide))).trans ((n727 _ (hx_ne hG1 hG597 (by decide))).trans ((n705 _ (hx_ne hG1 hG597 (by decide))).trans ((n685 _ (hx_ne hG1 hG597 (by decide))).trans ((n665 _ (hx_ne hG1 hG597 (by decide))).trans ((n645 _ (hx_ne hG1 hG597 (by decide))).trans ((n631 _ (hx_ne hG1 hG597 (by decide))).trans g616))))))) e713 ?_
          refine hx_k (l := 121) (m := 1) rfl rfl (by decide) (fun z751 h752 => ?_)
          refine hx_il (l := 122) rfl rfl ((n743 _ (hx_ne hG714 hG597 (by decide))).trans ((n727 _ (hx_ne hG714 hG597 (by decide))).trans g718)) (by omega) (by omega) (fun z753 h754 => ?_)
          refine hx_ci (l := 125) (as := [.ref o, .null, .int z749, .int z753]) rfl rfl (hx_iv (j := 3) (n := 3) (o := o) (r := [.ref o]) rfl rfl ((n743 _ (hx_ne hG0 hG597 (by decide))).trans ((n727 _ (hx_ne hG0 hG597 (by decide))).trans ((n705 _ (hx_ne hG0 hG597 (by decide))).trans ((n685 _ (hx_ne hG0 hG597 (by decide))).trans ((n665 _ (hx_ne hG0 hG597 (by decide))).trans ((n645 _ (hx_ne hG0 hG597 (by decide))).trans ((n631 _ (hx_ne hG0 hG597 (by decide))).trans ((n608 _ (hx_ne hG0 hG597 (by decide))).trans g593)))))))) rfl) (cc_X0_latestOf_0 (fz := ([(4, 2)] ++ fz)) hF (fun d => h_X7_part0 (fz := ([(4, 2)] ++ fz)) hF (hx_app (by decide +kernel) (fun q hq => (by decide +kernel : ∀ q ∈ fb_hp_X0_ask, q ∈ fb_X7_part0) q (hfz q hq))) d) (fun d => h_X2_value0 (fz := ([(4, 2)] ++ fz)) hF (hx_app (by decide +kernel) (fun q hq => (by decide +kernel : ∀ q ∈ fb_hp_X0_ask, q ∈ fb_X2_value0) q (hfz q hq))) d) (hx_app (by decide +kernel) (fun q hq => (by decide +kernel : ∀ q ∈ fb_hp_X0_ask, q ∈ fr_X0_latestOf_0) q (hfz q hq))) (d + 0)) hw744 hf747 ⟨(hx_tr (G := G) (s := 4) (b := 0) hG0 (by decide)), (hx_tn (G := G)), (ck_top_ok (G := G) z749), (ck_top_ok (G := G) z753), trivial⟩ (fun w755 z760 hw756 hf757 m758 a761 b762 u763 => ?_)
          have hs759 := ty_same_tr hs746 (hx_sapp m758)
          refine hx_k (l := 126) (m := 2) rfl rfl (by decide) (fun z764 h765 => ?_)
          refine hx_k (l := 128) (m := 99) rfl rfl (by decide) (fun z766 h767 => ?_)
          refine hx_ci (l := 131) (as := [.int z760, .int z764, .int z766]) rfl rfl rfl (cc_X8_bounded_0 (fz := ([(4, 2)] ++ fz)) hF  (hx_app (by decide +kernel) (fun q hq => (by decide +kernel : ∀ q ∈ fb_hp_X0_ask, q ∈ fr_X8_bounded_0) q (hfz q hq))) (d + 2)) hw756 hf757 ⟨(ck_top_ok (G := G) z760), (hx_ti (G := G) (lo := 2) (hi := 2) (by omega) (by omega)), (hx_ti (G := G) (lo := 99) (hi := 99) (by omega) (by omega)), trivial⟩ (fun w768 z773 hw769 hf770 m771 a774 b775 u776 => ?_)
          have hs772 := ty_same_tr hs759 (hx_sapp m771)
          obtain ⟨fs777, g778, -, q779⟩ := hx_obj hw769 hG0 (s := 4) rfl (by decide)
          refine hx_pf (q := (0, 0, 0, 0, (-2147483648), 2147483647)) (s := 4) (l := 134) (v := .int z773) rfl rfl rfl (by decide) rfl rfl rfl hw769 hG0 g778 trivial (ck_top_ok (G := G) z773) (fun w780 fs781 g782 e783 o784 n785 hw786 n787 => ?_)
          have hs788 := ty_same_tr hs772 (n787 fz (hx_ok hfz (by decide)))
          have hf789 := hF _ _ (n787 pr_ (by decide)) hf770
          refine ax_go 2 (y := (136, [some (.ref o), some (.ref la), some (.int p), some (.int tn), some (.null)], [.ref la, .ref o], w780, 0, 0)) rfl trivial ?_
          obtain ⟨fs790, g791, -, q792⟩ := hx_obj hw786 hG1 (s := 2) rfl (by decide)
          obtain ⟨p793, e794, hG795⟩ := hx_fr (k := 2) (s := 11) q792 rfl
          refine hx_gf (l := 139) rfl rfl rfl g791 e794 ?_
          refine ax_go 1 (y := (140, [some (.ref o), some (.ref la), some (.int p), some (.int tn), some (.null)], [.int p, .ref p793, .ref o], w780, 0, 0)) rfl trivial ?_
          obtain ⟨f796, g797, r798⟩ := hx_row hw786 hG795 (s := 11) (kd := 0) (n := 10) rfl (by decide)
          refine hx_il (l := 141) rfl rfl g797 (by omega) (by omega) (fun z799 h800 => ?_)
          refine ax_go 1 (y := (142, [some (.ref o), some (.ref la), some (.int p), some (.int tn), some (.null)], [.ref o, .int z799, .ref o], w780, 0, 0)) rfl trivial ?_
          refine hx_gf (l := 145) rfl rfl rfl g782 e783 ?_
          refine hx_idv (l := 146) rfl (by simp) rfl (by omega) (fun z801 => ?_)
          refine hx_pf (q := (0, 0, 0, 0, (-2147483648), 2147483647)) (s := 4) (l := 149) (v := .int z801) rfl rfl rfl (by decide) rfl rfl rfl hw786 hG0 g782 trivial (ck_top_ok (G := G) z801) (fun w802 fs803 g804 e805 o806 n807 hw808 n809 => ?_)
          have hs810 := ty_same_tr hs788 (n809 fz (hx_ok hfz (by decide)))
          have hf811 := hF _ _ (n809 pr_ (by decide)) hf789
          refine ax_go 1 (y := (150, [some (.ref o), some (.ref la), some (.int p), some (.int tn), some (.null)], [.ref o], w802, 0, 0)) rfl trivial ?_
          have q812 := hx_oq hw808 g804 hG0 (s := 4) rfl
          obtain ⟨p813, e814, hG815⟩ := hx_fr (k := 1) (s := 14) q812 rfl
          refine hx_gf (l := 153) rfl rfl rfl g804 e814 ?_
          refine hx_k (l := 154) (m := 2) rfl rfl (by decide) (fun z816 h817 => ?_)
          refine ax_go 1 (y := (155, [some (.ref o), some (.ref la), some (.int p), some (.int tn), some (.null)], [.ref o, .int z816, .ref p813], w802, 0, 0)) rfl trivial ?_
          refine hx_gf (l := 158) rfl rfl rfl g804 e805 ?_
          obtain ⟨f818, g819, r820⟩ := hx_row hw808 hG815 (s := 14) (kd := 0) (n := 8) rfl (by decide)
          refine hx_is (s := 14) (l := 159) rfl rfl rfl hw808 hG815 g819 (by omega) (by omega) hx_sg0 (fun w821 f822 g823 e824 o825 n826 hw827 n828 => ?_)
          have hs829 := ty_same_tr hs810 (n828 fz (hx_ok hfz (by decide)))
          have hf830 := hF _ _ (n828 pr_ (by decide)) hf811
          refine ax_go 2 (y := (161, [some (.ref o), some (.ref la), some (.int p), some (.int tn), some (.null)], [.ref o, .ref o], w821, 0, 0)) rfl trivial ?_
          refine hx_gf (l := 164) rfl rfl rfl ((n826 _ (hx_ne hG0 hG815 (by decide))).trans g804) e805 ?_
          refine ax_go 2 (y := (167, [some (.ref o), some (.ref la), some (.int p), some (.int tn), some (.null)], [.null, .ref o, .int z801, .ref o], w821, 0, 0)) rfl trivial ?_
          refine hx_k (l := 168) (m := 1) rfl rfl (by decide) (fun z831 h832 => ?_)
          refine hx_k (l := 169) (m := 0) rfl rfl (by decide) (fun z833 h834 => ?_)
          refine hx_ci (l := 172) (as := [.ref o, .null, .int z831, .int z833]) rfl rfl (hx_iv (j := 3) (n := 3) (o := o) (r := [.int z801, .ref o]) rfl rfl ((n826 _ (hx_ne hG0 hG815 (by decide))).trans g804) rfl) (cc_X0_latestOf_0 (fz := ([(4, 2)] ++ fz)) hF (fun d => h_X7_part0 (fz := ([(4, 2)] ++ fz)) hF (hx_app (by decide +kernel) (fun q hq => (by decide +kernel : ∀ q ∈ fb_hp_X0_ask, q ∈ fb_X7_part0) q (hfz q hq))) d) (fun d => h_X2_value0 (fz := ([(4, 2)] ++ fz)) hF (hx_app (by decide +kernel) (fun q hq => (by decide +kernel : ∀ q ∈ fb_hp_X0_ask, q ∈ fb_X2_value0) q (hfz q hq))) d) (hx_app (by decide +kernel) (fun q hq => (by decide +kernel : ∀ q ∈ fb_hp_X0_ask, q ∈ fr_X0_latestOf_0) q (hfz q hq))) (d + 0)) hw827 hf830 ⟨(hx_tr (G := G) (s := 4) (b := 0) hG0 (by decide)), (hx_tn (G := G)), (ck_top_ok (G := G) z831), (ck_top_ok (G := G) z833), trivial⟩ (fun w835 z840 hw836 hf837 m838 a841 b842 u843 => ?_)
          have hs839 := ty_same_tr hs829 (hx_sapp m838)
          obtain ⟨fs844, g845, -, q846⟩ := hx_obj hw836 hG0 (s := 4) rfl (by decide)
          refine hx_k (l := 173) (m := 0) rfl rfl (by decide) (fun z847 h848 => ?_)
          refine hx_k (l := 175) (m := 98) rfl rfl (by decide) (fun z849 h850 => ?_)
          refine hx_ci (l := 178) (as := [.int z840, .int z847, .int z849]) rfl rfl rfl (cc_X8_bounded_1 (fz := ([(4, 2)] ++ fz)) hF  (hx_app (by decide +kernel) (fun q hq => (by decide +kernel : ∀ q ∈ fb_hp_X0_ask, q ∈ fr_X8_bounded_1) q (hfz q hq))) (d + 2)) hw836 hf837 ⟨(ck_top_ok (G := G) z840), (hx_ti (G := G) (lo := 0) (hi := 0) (by omega) (by omega)), (hx_ti (G := G) (lo := 98) (hi := 98) (by omega) (by omega)), trivial⟩ (fun w851 z856 hw852 hf853 m854 a857 b858 u859 => ?_)
          have hs855 := ty_same_tr hs839 (hx_sapp m854)
          obtain ⟨fs860, g861, -, q862⟩ := hx_obj hw852 hG0 (s := 4) rfl (by decide)
          refine hx_min (l := 181) rfl rfl (by decide) rfl (fun z863 h864 => ?_)
          refine hx_pf (q := (0, 0, 0, 0, (-2147483648), 2147483647)) (s := 4) (l := 184) (v := .int z863) rfl rfl rfl (by decide) rfl rfl rfl hw852 hG0 g861 trivial (ck_top_ok (G := G) z863) (fun w865 fs866 g867 e868 o869 n870 hw871 n872 => ?_)
          have hs873 := ty_same_tr hs855 (n872 fz (hx_ok hfz (by decide)))
          have hf874 := hF _ _ (n872 pr_ (by decide)) hf853
          refine ax_go 3 (y := (188, [some (.ref o), some (.ref la), some (.int p), some (.int tn), some (.null)], [.null, .ref o, .ref o], w865, 0, 0)) rfl trivial ?_
          refine hx_k (l := 189) (m := 2) rfl rfl (by decide) (fun z875 h876 => ?_)
          refine hx_k (l := 190) (m := 1) rfl rfl (by decide) (fun z877 h878 => ?_)
          refine hx_ci (l := 193) (as := [.ref o, .null, .int z875, .int z877]) rfl rfl (hx_iv (j := 3) (n := 3) (o := o) (r := [.ref o]) rfl rfl g867 rfl) (cc_X0_latestOf_0 (fz := ([(4, 2)] ++ fz)) hF (fun d => h_X7_part0 (fz := ([(4, 2)] ++ fz)) hF (hx_app (by decide +kernel) (fun q hq => (by decide +kernel : ∀ q ∈ fb_hp_X0_ask, q ∈ fb_X7_part0) q (hfz q hq))) d) (fun d => h_X2_value0 (fz := ([(4, 2)] ++ fz)) hF (hx_app (by decide +kernel) (fun q hq => (by decide +kernel : ∀ q ∈ fb_hp_X0_ask, q ∈ fb_X2_value0) q (hfz q hq))) d) (hx_app (by decide +kernel) (fun q hq => (by decide +kernel : ∀ q ∈ fb_hp_X0_ask, q ∈ fr_X0_latestOf_0) q (hfz q hq))) (d + 0)) hw871 hf874 ⟨(hx_tr (G := G) (s := 4) (b := 0) hG0 (by decide)), (hx_tn (G := G)), (ck_top_ok (G := G) z875), (ck_top_ok (G := G) z877), trivial⟩ (fun w879 z884 hw880 hf881 m882 a885 b886 u887 => ?_)
          have hs883 := ty_same_tr hs873 (hx_sapp m882)
          obtain ⟨fs888, g889, -, q890⟩ := hx_obj hw880 hG0 (s := 4) rfl (by decide)
          refine hx_k (l := 194) (m := 1) rfl rfl (by decide) (fun z891 h892 => ?_)
          refine hx_k (l := 196) (m := 9) rfl rfl (by decide) (fun z893 h894 => ?_)
          refine hx_ci (l := 199) (as := [.int z884, .int z891, .int z893]) rfl rfl rfl (cc_X8_bounded_2 (fz := ([(4, 2)] ++ fz)) hF  (hx_app (by decide +kernel) (fun q hq => (by decide +kernel : ∀ q ∈ fb_hp_X0_ask, q ∈ fr_X8_bounded_2) q (hfz q hq))) (d + 2)) hw880 hf881 ⟨(ck_top_ok (G := G) z884), (hx_ti (G := G) (lo := 1) (hi := 1) (by omega) (by omega)), (hx_ti (G := G) (lo := 9) (hi := 9) (by omega) (by omega)), trivial⟩ (fun w895 z900 hw896 hf897 m898 a901 b902 u903 => ?_)
          have hs899 := ty_same_tr hs883 (hx_sapp m898)
          obtain ⟨fs904, g905, -, q906⟩ := hx_obj hw896 hG0 (s := 4) rfl (by decide)
          refine hx_pf (q := (0, 0, 0, 0, (-2147483648), 2147483647)) (s := 4) (l := 202) (v := .int z900) rfl rfl rfl (by decide) rfl rfl rfl hw896 hG0 g905 trivial (ck_top_ok (G := G) z900) (fun w907 fs908 g909 e910 o911 n912 hw913 n914 => ?_)
          have hs915 := ty_same_tr hs899 (n914 fz (hx_ok hfz (by decide)))
          have hf916 := hF _ _ (n914 pr_ (by decide)) hf897
          refine ax_go 3 (y := (206, [some (.ref o), some (.ref la), some (.int p), some (.int tn), some (.null)], [.null, .ref o, .ref o], w907, 0, 0)) rfl trivial ?_
          refine hx_k (l := 207) (m := 3) rfl rfl (by decide) (fun z917 h918 => ?_)
          refine hx_k (l := 208) (m := 0) rfl rfl (by decide) (fun z919 h920 => ?_)
          refine hx_ci (l := 211) (as := [.ref o, .null, .int z917, .int z919]) rfl rfl (hx_iv (j := 3) (n := 3) (o := o) (r := [.ref o]) rfl rfl g909 rfl) (cc_X0_latestOf_0 (fz := ([(4, 2)] ++ fz)) hF (fun d => h_X7_part0 (fz := ([(4, 2)] ++ fz)) hF (hx_app (by decide +kernel) (fun q hq => (by decide +kernel : ∀ q ∈ fb_hp_X0_ask, q ∈ fb_X7_part0) q (hfz q hq))) d) (fun d => h_X2_value0 (fz := ([(4, 2)] ++ fz)) hF (hx_app (by decide +kernel) (fun q hq => (by decide +kernel : ∀ q ∈ fb_hp_X0_ask, q ∈ fb_X2_value0) q (hfz q hq))) d) (hx_app (by decide +kernel) (fun q hq => (by decide +kernel : ∀ q ∈ fb_hp_X0_ask, q ∈ fr_X0_latestOf_0) q (hfz q hq))) (d + 0)) hw913 hf916 ⟨(hx_tr (G := G) (s := 4) (b := 0) hG0 (by decide)), (hx_tn (G := G)), (ck_top_ok (G := G) z917), (ck_top_ok (G := G) z919), trivial⟩ (fun w921 z926 hw922 hf923 m924 a927 b928 u929 => ?_)
          have hs925 := ty_same_tr hs915 (hx_sapp m924)
          obtain ⟨fs930, g931, -, q932⟩ := hx_obj hw922 hG0 (s := 4) rfl (by decide)
          refine hx_if_eq (l := 214) rfl rfl (fun h933 => ?_) (fun h933 => ?_)
          · -- 218
            refine hx_k (l := 219) (m := 0) rfl rfl (by decide) (fun z934 h935 => ?_)
            refine hx_pf (q := (0, 0, 0, 0, 0, 1)) (s := 4) (l := 222) (v := .int z934) rfl rfl rfl (by decide) rfl rfl rfl hw922 hG0 g931 ⟨hx_01 (by omega) (by omega), trivial⟩ (hx_ti (G := G) (lo := 0) (hi := 1) (by omega) (by omega)) (fun w936 fs937 g938 e939 o940 n941 hw942 n943 => ?_)
            have hs944 := ty_same_tr hs925 (n943 fz (hx_ok hfz (by decide)))
            have hf945 := hF _ _ (n943 pr_ (by decide)) hf923
            exact ax_ret rfl rfl trivial ⟨none, _, rfl, hw942, hf945, hs944, trivial, (fun o1 l1 p1 t1 h1 => by cases h1; exact ⟨z773, ⟨_, g938, ((o940 2 (by decide)).trans ((hx_kf m924 (hx_mem hG0 (by decide)) g909 g931).trans ((o911 2 (by decide)).trans ((hx_kf m898 (hx_mem hG0 (by decide)) g889 g905).trans ((hx_kf m882 (hx_mem hG0 (by decide)) g867 g889).trans ((o869 2 (by decide)).trans ((hx_kf m854 (hx_mem hG0 (by decide)) g845 g861).trans ((hx_kf m838 (hx_mem hG0 (by decide)) ((n826 _ (hx_ne hG0 hG815 (by decide))).trans g804) g845).trans ((o806 2 (by decide)).trans e783)))))))))⟩, by omega, by omega⟩)⟩
          · -- 214
            refine hx_k (l := 215) (m := 1) rfl rfl (by decide) (fun z946 h947 => ?_)
            refine ax_go 1 (y := (219, [some (.ref o), some (.ref la), some (.int p), some (.int tn), some (.null)], [.int z946, .ref o], w921, 0, 0)) rfl trivial ?_
            refine hx_pf (q := (0, 0, 0, 0, 0, 1)) (s := 4) (l := 222) (v := .int z946) rfl rfl rfl (by decide) rfl rfl rfl hw922 hG0 g931 ⟨hx_01 (by omega) (by omega), trivial⟩ (hx_ti (G := G) (lo := 0) (hi := 1) (by omega) (by omega)) (fun w948 fs949 g950 e951 o952 n953 hw954 n955 => ?_)
            have hs956 := ty_same_tr hs925 (n955 fz (hx_ok hfz (by decide)))
            have hf957 := hF _ _ (n955 pr_ (by decide)) hf923
            exact ax_ret rfl rfl trivial ⟨none, _, rfl, hw954, hf957, hs956, trivial, (fun o1 l1 p1 t1 h1 => by cases h1; exact ⟨z773, ⟨_, g950, ((o952 2 (by decide)).trans ((hx_kf m924 (hx_mem hG0 (by decide)) g909 g931).trans ((o911 2 (by decide)).trans ((hx_kf m898 (hx_mem hG0 (by decide)) g889 g905).trans ((hx_kf m882 (hx_mem hG0 (by decide)) g867 g889).trans ((o869 2 (by decide)).trans ((hx_kf m854 (hx_mem hG0 (by decide)) g845 g861).trans ((hx_kf m838 (hx_mem hG0 (by decide)) ((n826 _ (hx_ne hG0 hG815 (by decide))).trans g804) g845).trans ((o806 2 (by decide)).trans e783)))))))))⟩, by omega, by omega⟩)⟩
        · -- 108
          refine ax_go 2 (y := (125, [some (.ref o), some (.ref la), some (.int p), some (.int tn), some (.null)], [.int tn, .ref o], w738, 0, 0)) rfl trivial ?_
          refine hx_k (l := 126) (m := 2) rfl rfl (by decide) (fun z958 h959 => ?_)
          refine hx_k (l := 128) (m := 99) rfl rfl (by decide) (fun z960 h961 => ?_)
          refine hx_ci (l := 131) (as := [.int tn, .int z958, .int z960]) rfl rfl rfl (cc_X8_bounded_0 (fz := ([(4, 2)] ++ fz)) hF  (hx_app (by decide +kernel) (fun q hq => (by decide +kernel : ∀ q ∈ fb_hp_X0_ask, q ∈ fr_X8_bounded_0) q (hfz q hq))) (d + 2)) hw744 hf747 ⟨(ck_top_ok (G := G) tn), (hx_ti (G := G) (lo := 2) (hi := 2) (by omega) (by omega)), (hx_ti (G := G) (lo := 99) (hi := 99) (by omega) (by omega)), trivial⟩ (fun w962 z967 hw963 hf964 m965 a968 b969 u970 => ?_)
          have hs966 := ty_same_tr hs746 (hx_sapp m965)
          obtain ⟨fs971, g972, -, q973⟩ := hx_obj hw963 hG0 (s := 4) rfl (by decide)
          refine hx_pf (q := (0, 0, 0, 0, (-2147483648), 2147483647)) (s := 4) (l := 134) (v := .int z967) rfl rfl rfl (by decide) rfl rfl rfl hw963 hG0 g972 trivial (ck_top_ok (G := G) z967) (fun w974 fs975 g976 e977 o978 n979 hw980 n981 => ?_)
          have hs982 := ty_same_tr hs966 (n981 fz (hx_ok hfz (by decide)))
          have hf983 := hF _ _ (n981 pr_ (by decide)) hf964
          refine ax_go 2 (y := (136, [some (.ref o), some (.ref la), some (.int p), some (.int tn), some (.null)], [.ref la, .ref o], w974, 0, 0)) rfl trivial ?_
          obtain ⟨fs984, g985, -, q986⟩ := hx_obj hw980 hG1 (s := 2) rfl (by decide)
          obtain ⟨p987, e988, hG989⟩ := hx_fr (k := 2) (s := 11) q986 rfl
          refine hx_gf (l := 139) rfl rfl rfl g985 e988 ?_
          refine ax_go 1 (y := (140, [some (.ref o), some (.ref la), some (.int p), some (.int tn), some (.null)], [.int p, .ref p987, .ref o], w974, 0, 0)) rfl trivial ?_
          obtain ⟨f990, g991, r992⟩ := hx_row hw980 hG989 (s := 11) (kd := 0) (n := 10) rfl (by decide)
          refine hx_il (l := 141) rfl rfl g991 (by omega) (by omega) (fun z993 h994 => ?_)
          refine ax_go 1 (y := (142, [some (.ref o), some (.ref la), some (.int p), some (.int tn), some (.null)], [.ref o, .int z993, .ref o], w974, 0, 0)) rfl trivial ?_
          refine hx_gf (l := 145) rfl rfl rfl g976 e977 ?_
          refine hx_idv (l := 146) rfl (by simp) rfl (by omega) (fun z995 => ?_)
          refine hx_pf (q := (0, 0, 0, 0, (-2147483648), 2147483647)) (s := 4) (l := 149) (v := .int z995) rfl rfl rfl (by decide) rfl rfl rfl hw980 hG0 g976 trivial (ck_top_ok (G := G) z995) (fun w996 fs997 g998 e999 o1000 n1001 hw1002 n1003 => ?_)
          have hs1004 := ty_same_tr hs982 (n1003 fz (hx_ok hfz (by decide)))
          have hf1005 := hF _ _ (n1003 pr_ (by decide)) hf983
          refine ax_go 1 (y := (150, [some (.ref o), some (.ref la), some (.int p), some (.int tn), some (.null)], [.ref o], w996, 0, 0)) rfl trivial ?_
          have q1006 := hx_oq hw1002 g998 hG0 (s := 4) rfl
          obtain ⟨p1007, e1008, hG1009⟩ := hx_fr (k := 1) (s := 14) q1006 rfl
          refine hx_gf (l := 153) rfl rfl rfl g998 e1008 ?_
          refine hx_k (l := 154) (m := 2) rfl rfl (by decide) (fun z1010 h1011 => ?_)
          refine ax_go 1 (y := (155, [some (.ref o), some (.ref la), some (.int p), some (.int tn), some (.null)], [.ref o, .int z1010, .ref p1007], w996, 0, 0)) rfl trivial ?_
          refine hx_gf (l := 158) rfl rfl rfl g998 e999 ?_
          obtain ⟨f1012, g1013, r1014⟩ := hx_row hw1002 hG1009 (s := 14) (kd := 0) (n := 8) rfl (by decide)
          refine hx_is (s := 14) (l := 159) rfl rfl rfl hw1002 hG1009 g1013 (by omega) (by omega) hx_sg0 (fun w1015 f1016 g1017 e1018 o1019 n1020 hw1021 n1022 => ?_)
          have hs1023 := ty_same_tr hs1004 (n1022 fz (hx_ok hfz (by decide)))
          have hf1024 := hF _ _ (n1022 pr_ (by decide)) hf1005
          refine ax_go 2 (y := (161, [some (.ref o), some (.ref la), some (.int p), some (.int tn), some (.null)], [.ref o, .ref o], w1015, 0, 0)) rfl trivial ?_
          refine hx_gf (l := 164) rfl rfl rfl ((n1020 _ (hx_ne hG0 hG1009 (by decide))).trans g998) e999 ?_
          refine ax_go 2 (y := (167, [some (.ref o), some (.ref la), some (.int p), some (.int tn), some (.null)], [.null, .ref o, .int z995, .ref o], w1015, 0, 0)) rfl trivial ?_
          refine hx_k (l := 168) (m := 1) rfl rfl (by decide) (fun z1025 h1026 => ?_)
          refine hx_k (l := 169) (m := 0) rfl rfl (by decide) (fun z1027 h1028 => ?_)
          refine hx_ci (l := 172) (as := [.ref o, .null, .int z1025, .int z1027]) rfl rfl (hx_iv (j := 3) (n := 3) (o := o) (r := [.int z995, .ref o]) rfl rfl ((n1020 _ (hx_ne hG0 hG1009 (by decide))).trans g998) rfl) (cc_X0_latestOf_0 (fz := ([(4, 2)] ++ fz)) hF (fun d => h_X7_part0 (fz := ([(4, 2)] ++ fz)) hF (hx_app (by decide +kernel) (fun q hq => (by decide +kernel : ∀ q ∈ fb_hp_X0_ask, q ∈ fb_X7_part0) q (hfz q hq))) d) (fun d => h_X2_value0 (fz := ([(4, 2)] ++ fz)) hF (hx_app (by decide +kernel) (fun q hq => (by decide +kernel : ∀ q ∈ fb_hp_X0_ask, q ∈ fb_X2_value0) q (hfz q hq))) d) (hx_app (by decide +kernel) (fun q hq => (by decide +kernel : ∀ q ∈ fb_hp_X0_ask, q ∈ fr_X0_latestOf_0) q (hfz q hq))) (d + 0)) hw1021 hf1024 ⟨(hx_tr (G := G) (s := 4) (b := 0) hG0 (by decide)), (hx_tn (G := G)), (ck_top_ok (G := G) z1025), (ck_top_ok (G := G) z1027), trivial⟩ (fun w1029 z1034 hw1030 hf1031 m1032 a1035 b1036 u1037 => ?_)
          have hs1033 := ty_same_tr hs1023 (hx_sapp m1032)
          obtain ⟨fs1038, g1039, -, q1040⟩ := hx_obj hw1030 hG0 (s := 4) rfl (by decide)
          refine hx_k (l := 173) (m := 0) rfl rfl (by decide) (fun z1041 h1042 => ?_)
          refine hx_k (l := 175) (m := 98) rfl rfl (by decide) (fun z1043 h1044 => ?_)
          refine hx_ci (l := 178) (as := [.int z1034, .int z1041, .int z1043]) rfl rfl rfl (cc_X8_bounded_1 (fz := ([(4, 2)] ++ fz)) hF  (hx_app (by decide +kernel) (fun q hq => (by decide +kernel : ∀ q ∈ fb_hp_X0_ask, q ∈ fr_X8_bounded_1) q (hfz q hq))) (d + 2)) hw1030 hf1031 ⟨(ck_top_ok (G := G) z1034), (hx_ti (G := G) (lo := 0) (hi := 0) (by omega) (by omega)), (hx_ti (G := G) (lo := 98) (hi := 98) (by omega) (by omega)), trivial⟩ (fun w1045 z1050 hw1046 hf1047 m1048 a1051 b1052 u1053 => ?_)
          have hs1049 := ty_same_tr hs1033 (hx_sapp m1048)
          obtain ⟨fs1054, g1055, -, q1056⟩ := hx_obj hw1046 hG0 (s := 4) rfl (by decide)
          refine hx_min (l := 181) rfl rfl (by decide) rfl (fun z1057 h1058 => ?_)
          refine hx_pf (q := (0, 0, 0, 0, (-2147483648), 2147483647)) (s := 4) (l := 184) (v := .int z1057) rfl rfl rfl (by decide) rfl rfl rfl hw1046 hG0 g1055 trivial (ck_top_ok (G := G) z1057) (fun w1059 fs1060 g1061 e1062 o1063 n1064 hw1065 n1066 => ?_)
          have hs1067 := ty_same_tr hs1049 (n1066 fz (hx_ok hfz (by decide)))
          have hf1068 := hF _ _ (n1066 pr_ (by decide)) hf1047
          refine ax_go 3 (y := (188, [some (.ref o), some (.ref la), some (.int p), some (.int tn), some (.null)], [.null, .ref o, .ref o], w1059, 0, 0)) rfl trivial ?_
          refine hx_k (l := 189) (m := 2) rfl rfl (by decide) (fun z1069 h1070 => ?_)
          refine hx_k (l := 190) (m := 1) rfl rfl (by decide) (fun z1071 h1072 => ?_)
          refine hx_ci (l := 193) (as := [.ref o, .null, .int z1069, .int z1071]) rfl rfl (hx_iv (j := 3) (n := 3) (o := o) (r := [.ref o]) rfl rfl g1061 rfl) (cc_X0_latestOf_0 (fz := ([(4, 2)] ++ fz)) hF (fun d => h_X7_part0 (fz := ([(4, 2)] ++ fz)) hF (hx_app (by decide +kernel) (fun q hq => (by decide +kernel : ∀ q ∈ fb_hp_X0_ask, q ∈ fb_X7_part0) q (hfz q hq))) d) (fun d => h_X2_value0 (fz := ([(4, 2)] ++ fz)) hF (hx_app (by decide +kernel) (fun q hq => (by decide +kernel : ∀ q ∈ fb_hp_X0_ask, q ∈ fb_X2_value0) q (hfz q hq))) d) (hx_app (by decide +kernel) (fun q hq => (by decide +kernel : ∀ q ∈ fb_hp_X0_ask, q ∈ fr_X0_latestOf_0) q (hfz q hq))) (d + 0)) hw1065 hf1068 ⟨(hx_tr (G := G) (s := 4) (b := 0) hG0 (by decide)), (hx_tn (G := G)), (ck_top_ok (G := G) z1069), (ck_top_ok (G := G) z1071), trivial⟩ (fun w1073 z1078 hw1074 hf1075 m1076 a1079 b1080 u1081 => ?_)
          have hs1077 := ty_same_tr hs1067 (hx_sapp m1076)
          obtain ⟨fs1082, g1083, -, q1084⟩ := hx_obj hw1074 hG0 (s := 4) rfl (by decide)
          refine hx_k (l := 194) (m := 1) rfl rfl (by decide) (fun z1085 h1086 => ?_)
          refine hx_k (l := 196) (m := 9) rfl rfl (by decide) (fun z1087 h1088 => ?_)
          refine hx_ci (l := 199) (as := [.int z1078, .int z1085, .int z1087]) rfl rfl rfl (cc_X8_bounded_2 (fz := ([(4, 2)] ++ fz)) hF  (hx_app (by decide +kernel) (fun q hq => (by decide +kernel : ∀ q ∈ fb_hp_X0_ask, q ∈ fr_X8_bounded_2) q (hfz q hq))) (d + 2)) hw1074 hf1075 ⟨(ck_top_ok (G := G) z1078), (hx_ti (G := G) (lo := 1) (hi := 1) (by omega) (by omega)), (hx_ti (G := G) (lo := 9) (hi := 9) (by omega) (by omega)), trivial⟩ (fun w1089 z1094 hw1090 hf1091 m1092 a1095 b1096 u1097 => ?_)
          have hs1093 := ty_same_tr hs1077 (hx_sapp m1092)
          obtain ⟨fs1098, g1099, -, q1100⟩ := hx_obj hw1090 hG0 (s := 4) rfl (by decide)
          refine hx_pf (q := (0, 0, 0, 0, (-2147483648), 2147483647)) (s := 4) (l := 202) (v := .int z1094) rfl rfl rfl (by decide) rfl rfl rfl hw1090 hG0 g1099 trivial (ck_top_ok (G := G) z1094) (fun w1101 fs1102 g1103 e1104 o1105 n1106 hw1107 n1108 => ?_)
          have hs1109 := ty_same_tr hs1093 (n1108 fz (hx_ok hfz (by decide)))
          have hf1110 := hF _ _ (n1108 pr_ (by decide)) hf1091
          refine ax_go 3 (y := (206, [some (.ref o), some (.ref la), some (.int p), some (.int tn), some (.null)], [.null, .ref o, .ref o], w1101, 0, 0)) rfl trivial ?_
          refine hx_k (l := 207) (m := 3) rfl rfl (by decide) (fun z1111 h1112 => ?_)
          refine hx_k (l := 208) (m := 0) rfl rfl (by decide) (fun z1113 h1114 => ?_)
          refine hx_ci (l := 211) (as := [.ref o, .null, .int z1111, .int z1113]) rfl rfl (hx_iv (j := 3) (n := 3) (o := o) (r := [.ref o]) rfl rfl g1103 rfl) (cc_X0_latestOf_0 (fz := ([(4, 2)] ++ fz)) hF (fun d => h_X7_part0 (fz := ([(4, 2)] ++ fz)) hF (hx_app (by decide +kernel) (fun q hq => (by decide +kernel : ∀ q ∈ fb_hp_X0_ask, q ∈ fb_X7_part0) q (hfz q hq))) d) (fun d => h_X2_value0 (fz := ([(4, 2)] ++ fz)) hF (hx_app (by decide +kernel) (fun q hq => (by decide +kernel : ∀ q ∈ fb_hp_X0_ask, q ∈ fb_X2_value0) q (hfz q hq))) d) (hx_app (by decide +kernel) (fun q hq => (by decide +kernel : ∀ q ∈ fb_hp_X0_ask, q ∈ fr_X0_latestOf_0) q (hfz q hq))) (d + 0)) hw1107 hf1110 ⟨(hx_tr (G := G) (s := 4) (b := 0) hG0 (by decide)), (hx_tn (G := G)), (ck_top_ok (G := G) z1111), (ck_top_ok (G := G) z1113), trivial⟩ (fun w1115 z1120 hw1116 hf1117 m1118 a1121 b1122 u1123 => ?_)
          have hs1119 := ty_same_tr hs1109 (hx_sapp m1118)
          obtain ⟨fs1124, g1125, -, q1126⟩ := hx_obj hw1116 hG0 (s := 4) rfl (by decide)
          refine hx_if_eq (l := 214) rfl rfl (fun h1127 => ?_) (fun h1127 => ?_)
          · -- 218
            refine hx_k (l := 219) (m := 0) rfl rfl (by decide) (fun z1128 h1129 => ?_)
            refine hx_pf (q := (0, 0, 0, 0, 0, 1)) (s := 4) (l := 222) (v := .int z1128) rfl rfl rfl (by decide) rfl rfl rfl hw1116 hG0 g1125 ⟨hx_01 (by omega) (by omega), trivial⟩ (hx_ti (G := G) (lo := 0) (hi := 1) (by omega) (by omega)) (fun w1130 fs1131 g1132 e1133 o1134 n1135 hw1136 n1137 => ?_)
            have hs1138 := ty_same_tr hs1119 (n1137 fz (hx_ok hfz (by decide)))
            have hf1139 := hF _ _ (n1137 pr_ (by decide)) hf1117
            exact ax_ret rfl rfl trivial ⟨none, _, rfl, hw1136, hf1139, hs1138, trivial, (fun o1 l1 p1 t1 h1 => by cases h1; exact ⟨z967, ⟨_, g1132, ((o1134 2 (by decide)).trans ((hx_kf m1118 (hx_mem hG0 (by decide)) g1103 g1125).trans ((o1105 2 (by decide)).trans ((hx_kf m1092 (hx_mem hG0 (by decide)) g1083 g1099).trans ((hx_kf m1076 (hx_mem hG0 (by decide)) g1061 g1083).trans ((o1063 2 (by decide)).trans ((hx_kf m1048 (hx_mem hG0 (by decide)) g1039 g1055).trans ((hx_kf m1032 (hx_mem hG0 (by decide)) ((n1020 _ (hx_ne hG0 hG1009 (by decide))).trans g998) g1039).trans ((o1000 2 (by decide)).trans e977)))))))))⟩, by omega, by omega⟩)⟩
          · -- 214
            refine hx_k (l := 215) (m := 1) rfl rfl (by decide) (fun z1140 h1141 => ?_)
            refine ax_go 1 (y := (219, [some (.ref o), some (.ref la), some (.int p), some (.int tn), some (.null)], [.int z1140, .ref o], w1115, 0, 0)) rfl trivial ?_
            refine hx_pf (q := (0, 0, 0, 0, 0, 1)) (s := 4) (l := 222) (v := .int z1140) rfl rfl rfl (by decide) rfl rfl rfl hw1116 hG0 g1125 ⟨hx_01 (by omega) (by omega), trivial⟩ (hx_ti (G := G) (lo := 0) (hi := 1) (by omega) (by omega)) (fun w1142 fs1143 g1144 e1145 o1146 n1147 hw1148 n1149 => ?_)
            have hs1150 := ty_same_tr hs1119 (n1149 fz (hx_ok hfz (by decide)))
            have hf1151 := hF _ _ (n1149 pr_ (by decide)) hf1117
            exact ax_ret rfl rfl trivial ⟨none, _, rfl, hw1148, hf1151, hs1150, trivial, (fun o1 l1 p1 t1 h1 => by cases h1; exact ⟨z967, ⟨_, g1144, ((o1146 2 (by decide)).trans ((hx_kf m1118 (hx_mem hG0 (by decide)) g1103 g1125).trans ((o1105 2 (by decide)).trans ((hx_kf m1092 (hx_mem hG0 (by decide)) g1083 g1099).trans ((hx_kf m1076 (hx_mem hG0 (by decide)) g1061 g1083).trans ((o1063 2 (by decide)).trans ((hx_kf m1048 (hx_mem hG0 (by decide)) g1039 g1055).trans ((hx_kf m1032 (hx_mem hG0 (by decide)) ((n1020 _ (hx_ne hG0 hG1009 (by decide))).trans g998) g1039).trans ((o1000 2 (by decide)).trans e977)))))))))⟩, by omega, by omega⟩)⟩
    · -- 8
      obtain ⟨fs1152, g1153, -, q1154⟩ := hx_obj hw hG0 (s := 4) rfl (by decide)
      obtain ⟨x1155, e1156, a1157, b1158⟩ := hx_fi (k := 2) (lo := (-2147483648)) (hi := 2147483647) q1154 rfl
      exact ax_ret rfl rfl trivial ⟨none, _, rfl, hw, hf, (ty_same_rf w), trivial, (fun o1 l1 p1 t1 h1 => by cases h1; exact ⟨x1155, ⟨_, g1153, e1156⟩, by omega, by omega⟩)⟩
def fb_hp_X3_partsOver : List (Nat × Nat) := [(8, 3), (8, 5), (19, 999), (32, 999), (33, 999), (34, 999), (35, 999), (44, 999), (45, 999), (1, 0), (18, 999), (2, 11), (2, 14), (1, 15), (54, 11), (7, 9), (30, 13), (30, 34), (30, 2), (30, 22), (30, 23), (30, 24), (30, 25), (46, 999), (47, 999), (30, 35), (30, 36), (7, 0), (24, 999), (37, 999), (30, 4), (30, 5), (30, 6), (30, 8), (30, 9), (30, 10), (30, 11), (30, 14), (30, 15), (30, 16), (30, 17), (30, 18), (30, 19), (30, 20), (30, 21), (39, 999), (40, 999), (41, 999), (30, 30), (30, 42), (30, 43), (30, 44), (1, 1), (1, 3), (1, 10), (1, 13), (8, 0), (30, 49), (2, 15), (8, 1)]
set_option maxHeartbeats 8000000 in
theorem hp_X3_partsOver {ro : ab_R} {G : Nat → Nat} {fz : List (Nat × Nat)} {F : ab_W → Prop} (hF : ∀ w w', ty_same G pr_ w w' → F w → F w') (hfz : ∀ q ∈ fz, q ∈ fb_hp_X3_partsOver) (d : Nat) : hx_ct ro sp_ G F fz (ab_Ev ro ab_codes (d + 5)) 26 [(2, 7, 0), (2, 2, 0), (0, (-2147483648), 2147483647), (0, 0, 60), (0, 0, 98)] (some (1, (-9223372036854775808), 9223372036854775807)) (fun as w => ∀ (la : Nat) (p n : Int32), as[1]? = some (.ref la) ∧ as[2]? = some (.int p) → hx_has w la 1 11 (.int n) → 0 ≤ p.toInt ∧ p.toInt < n.toInt) (fun _ _ _ _ => True) := by
  refine hx_hand (d := d + 4) (by decide) (fun as w hw hf has hP => ?_)
  match as, has with
  | [v0, v1, v2, v3, v4], ⟨h0, h1, h2, h3, h4, _⟩ =>
    obtain ⟨o, rfl, _, hG0⟩ := ty_refn h0 rfl rfl
    replace hG0 : G o = 7 := hG0
    obtain ⟨la, rfl, _, hG1⟩ := ty_refn h1 rfl rfl
    replace hG1 : G la = 2 := hG1
    obtain ⟨p, rfl, hl2, hh2⟩ := ty_int h2 rfl
    replace hl2 : ((-2147483648) : Int) ≤ p.toInt := hl2
    replace hh2 : p.toInt ≤ 2147483647 := hh2
    obtain ⟨nn, rfl, hl3, hh3⟩ := ty_int h3 rfl
    replace hl3 : (0 : Int) ≤ nn.toInt := hl3
    replace hh3 : nn.toInt ≤ 60 := hh3
    obtain ⟨ov, rfl, hl4, hh4⟩ := ty_int h4 rfl
    replace hl4 : (0 : Int) ≤ ov.toInt := hl4
    replace hh4 : ov.toInt ≤ 98 := hh4
    refine ⟨rfl, ?_⟩
    obtain ⟨fs1, g2, -, q3⟩ := hx_obj hw hG1 (s := 2) rfl (by decide)
    obtain ⟨x4, e5, a6, b7⟩ := hx_fi (k := 11) (lo := 0) (hi := 10) q3 rfl
    have hp0 := hP la p x4 ⟨rfl, rfl⟩ ⟨_, g2, e5⟩
    have ct83 : ∀ (nq : Nat) (w8 : ab_W) (tn3 : Int32) (rt3 : Int32) (dy3 : Int32) (u8 : Option Int64) (u10 : Option Int32) (u11 : Option Int64), ty_w sp_ G w8 → F w8 → ty_same G fz w w8 → (1 ≤ tn3.toInt) → (tn3.toInt ≤ 99) → (0 ≤ dy3.toInt) → (dy3.toInt ≤ 60) → (61 - dy3.toInt).toNat < nq → ab_wp ro (ab_Ev ro ab_codes (d + 4)) 3 false (some .long) ab_k_X3_partsOver (fun o_1 => ∃ v w1, o_1 = (v, w1, 0, 0) ∧ ty_w sp_ G w1 ∧ F w1 ∧ ty_same G fz w w1 ∧ ck_res G (some (1, (-9223372036854775808), 9223372036854775807)) v ∧ (fun _ _ _ _ => True) ([.ref o, .ref la, .int p, .int nn, .int ov] : List Value) w v w1) (83, [some (.ref o), some (.ref la), some (.int p), some (.int nn), some (.int ov), some (.int tn3), some (.int rt3), some (.int dy3), (u8.map Value.long), none, (u10.map Value.int), (u11.map Value.long), none], [], w8, 0, 0) := by
      intro nq
      induction nq with
      | zero => intro w8 tn3 rt3 dy3 u8 u10 u11 hw13 hf14 hs15 i9 i10 i11 i12 hm; exact absurd hm (Nat.not_lt_zero _)
      | succ nq ih83 =>
        intro w8 tn3 rt3 dy3 u8 u10 u11 hw13 hf14 hs15 i9 i10 i11 i12 hm83
        have ct103 : ∀ (nq : Nat) (w16 : ab_W) (tn4 : Int32) (rt4 : Int32) (dy4 : Int32) (bf4 : Int64) (i4 : Int32) (v11 : Option Int64), ty_w sp_ G w16 → F w16 → ty_same G fz w w16 → (1 ≤ tn4.toInt) → (tn4.toInt ≤ 99) → (dy4.toInt = dy3.toInt) → (dy4.toInt < 60) → (0 ≤ i4.toInt) → (i4.toInt ≤ 99) → (100 - i4.toInt).toNat < nq → ab_wp ro (ab_Ev ro ab_codes (d + 4)) 3 false (some .long) ab_k_X3_partsOver (fun o_1 => ∃ v w1, o_1 = (v, w1, 0, 0) ∧ ty_w sp_ G w1 ∧ F w1 ∧ ty_same G fz w w1 ∧ ck_res G (some (1, (-9223372036854775808), 9223372036854775807)) v ∧ (fun _ _ _ _ => True) ([.ref o, .ref la, .int p, .int nn, .int ov] : List Value) w v w1) (103, [some (.ref o), some (.ref la), some (.int p), some (.int nn), some (.int ov), some (.int tn4), some (.int rt4), some (.int dy4), some (.long bf4), none, some (.int i4), (v11.map Value.long), none], [], w16, 0, 0) := by
          intro nq
          induction nq with
          | zero => intro w16 tn4 rt4 dy4 bf4 i4 v11 hw23 hf24 hs25 i17 i18 i19 i20 i21 i22 hm; exact absurd hm (Nat.not_lt_zero _)
          | succ nq ih103 =>
            intro w16 tn4 rt4 dy4 bf4 i4 v11 hw23 hf24 hs25 i17 i18 i19 i20 i21 i22 hm103
            refine ax_go 2 (y := (107, [some (.ref o), some (.ref la), some (.int p), some (.int nn), some (.int ov), some (.int tn4), some (.int rt4), some (.int dy4), some (.long bf4), none, some (.int i4), (v11.map Value.long), none], [.int tn4, .int i4], w16, 0, 0)) rfl trivial ?_
            refine hx_ic_ge (l := 110) rfl rfl (fun h26 => ?_) (fun h26 => ?_)
            · -- 156
              refine hx_iinc (x := dy4) (n := 1) (l := 159) rfl rfl rfl (Nat.le_of_ble_eq_true rfl) (by omega) (by omega) (by decide) (fun z27 h28 => ?_)
              change ab_wp ro (ab_Ev ro ab_codes (d + 4)) 3 false (some .long) ab_k_X3_partsOver (fun o_1 => ∃ v w1, o_1 = (v, w1, 0, 0) ∧ ty_w sp_ G w1 ∧ F w1 ∧ ty_same G fz w w1 ∧ ck_res G (some (1, (-9223372036854775808), 9223372036854775807)) v ∧ (fun _ _ _ _ => True) ([.ref o, .ref la, .int p, .int nn, .int ov] : List Value) w v w1) (159, [some (.ref o), some (.ref la), some (.int p), some (.int nn), some (.int ov), some (.int tn4), some (.int rt4), some (.int z27), some (.long bf4), none, some (.int i4), (v11.map Value.long), none], [], w16, 0, 0)
              refine ax_go 1 (y := (83, [some (.ref o), some (.ref la), some (.int p), some (.int nn), some (.int ov), some (.int tn4), some (.int rt4), some (.int z27), some (.long bf4), none, some (.int i4), (v11.map Value.long), none], [], w16, 0, 0)) rfl trivial ?_
              exact ih83 w16 tn4 rt4 z27 (some bf4) (some i4) v11 hw23 hf24 hs25 (by omega) (by omega) (by omega) (by omega) (by omega)
            · -- 110
              refine ax_go 1 (y := (111, [some (.ref o), some (.ref la), some (.int p), some (.int nn), some (.int ov), some (.int tn4), some (.int rt4), some (.int dy4), some (.long bf4), none, some (.int i4), (v11.map Value.long), none], [.ref o], w16, 0, 0)) rfl trivial ?_
              obtain ⟨fs29, g30, -, q31⟩ := hx_obj hw23 hG0 (s := 7) rfl (by decide)
              obtain ⟨p32, e33, hG34⟩ := hx_fr (k := 6) (s := 23) q31 rfl
              refine hx_gf (l := 114) rfl rfl rfl g30 e33 ?_
              refine ax_go 1 (y := (116, [some (.ref o), some (.ref la), some (.int p), some (.int nn), some (.int ov), some (.int tn4), some (.int rt4), some (.int dy4), some (.long bf4), none, some (.int i4), (v11.map Value.long), none], [.int i4, .ref p32], w16, 0, 0)) rfl trivial ?_
              obtain ⟨f35, g36⟩ := hx_lrow hw23 hG34 (s := 23) (n := 99) rfl (by decide)
              refine hx_ll (l := 117) rfl rfl g36 (by omega) (by omega) (fun z38 h39 => ?_)
              refine ax_go 2 (y := (120, [some (.ref o), some (.ref la), some (.int p), some (.int nn), some (.int ov), some (.int tn4), some (.int rt4), some (.int dy4), some (.long bf4), none, some (.int i4), some (.long z38), none], [.ref o], w16, 0, 0)) rfl trivial ?_
              refine hx_gf (l := 123) rfl rfl rfl g30 e33 ?_
              refine ax_go 2 (y := (127, [some (.ref o), some (.ref la), some (.int p), some (.int nn), some (.int ov), some (.int tn4), some (.int rt4), some (.int dy4), some (.long bf4), none, some (.int i4), some (.long z38), none], [.long z38, .int i4, .ref p32], w16, 0, 0)) rfl trivial ?_
              refine hx_k (l := 129) (m := 10) rfl rfl (by decide) (fun z40 h41 => ?_)
              refine ax_go 1 (y := (131, [some (.ref o), some (.ref la), some (.int p), some (.int nn), some (.int ov), some (.int tn4), some (.int rt4), some (.int dy4), some (.long bf4), none, some (.int i4), some (.long z38), none], [.int rt4, .int z40, .long z38, .int i4, .ref p32], w16, 0, 0)) rfl trivial ?_
              refine hx_sub (l := 132) rfl rfl (fun z42 h43 => ?_)
              refine hx_anyl (l := 133) rfl rfl (fun z44 => ?_)
              refine hx_anyl (l := 134) rfl rfl (fun z45 => ?_)
              refine ax_go 2 (y := (138, [some (.ref o), some (.ref la), some (.int p), some (.int nn), some (.int ov), some (.int tn4), some (.int rt4), some (.int dy4), some (.long bf4), none, some (.int i4), some (.long z38), none], [.int rt4, .long bf4, .long z45, .int i4, .ref p32], w16, 0, 0)) rfl trivial ?_
              refine hx_anyl (l := 139) rfl rfl (fun z46 => ?_)
              refine hx_anyl (l := 140) rfl rfl (fun z47 => ?_)
              refine hx_anyl (l := 141) rfl rfl (fun z48 => ?_)
              refine hx_lk (l := 144) (m := 10) rfl rfl (by decide) (fun z49 h50 => ?_)
              refine hx_ldv (l := 145) rfl (by simp) rfl (by omega) (fun z51 => ?_)
              refine hx_ls (s := 23) (l := 146) rfl rfl rfl hw23 hG34 g36 (by omega) (by omega) (fun w52 f53 g54 n57 hw58 n59 => ?_)
              have hs60 := ty_same_tr hs25 (n59 fz (hx_ok hfz (by decide)))
              have hf61 := hF _ _ (n59 pr_ (by decide)) hf24
              refine ax_go 2 (y := (150, [some (.ref o), some (.ref la), some (.int p), some (.int nn), some (.int ov), some (.int tn4), some (.int rt4), some (.int dy4), some (.long z38), none, some (.int i4), some (.long z38), none], [], w52, 0, 0)) rfl trivial ?_
              refine hx_iinc (x := i4) (n := 1) (l := 153) rfl rfl rfl (Nat.le_of_ble_eq_true rfl) (by omega) (by omega) (by decide) (fun z62 h63 => ?_)
              change ab_wp ro (ab_Ev ro ab_codes (d + 4)) 3 false (some .long) ab_k_X3_partsOver (fun o_1 => ∃ v w1, o_1 = (v, w1, 0, 0) ∧ ty_w sp_ G w1 ∧ F w1 ∧ ty_same G fz w w1 ∧ ck_res G (some (1, (-9223372036854775808), 9223372036854775807)) v ∧ (fun _ _ _ _ => True) ([.ref o, .ref la, .int p, .int nn, .int ov] : List Value) w v w1) (153, [some (.ref o), some (.ref la), some (.int p), some (.int nn), some (.int ov), some (.int tn4), some (.int rt4), some (.int dy4), some (.long z38), none, some (.int z62), some (.long z38), none], [], w52, 0, 0)
              refine ax_go 1 (y := (103, [some (.ref o), some (.ref la), some (.int p), some (.int nn), some (.int ov), some (.int tn4), some (.int rt4), some (.int dy4), some (.long z38), none, some (.int z62), some (.long z38), none], [], w52, 0, 0)) rfl trivial ?_
              exact ih103 w52 tn4 rt4 dy4 z38 z62 (some z38) hw58 hf61 hs60 (by omega) (by omega) (by omega) (by omega) (by omega) (by omega) (by omega)
        refine ax_go 2 (y := (86, [some (.ref o), some (.ref la), some (.int p), some (.int nn), some (.int ov), some (.int tn3), some (.int rt3), some (.int dy3), (u8.map Value.long), none, (u10.map Value.int), (u11.map Value.long), none], [.int nn, .int dy3], w8, 0, 0)) rfl trivial ?_
        refine hx_ic_ge (l := 89) rfl rfl (fun h64 => ?_) (fun h64 => ?_)
        · -- 162
          refine ax_go 2 (y := (165, [some (.ref o), some (.ref la), some (.int p), some (.int nn), some (.int ov), some (.int tn3), some (.int rt3), some (.int dy3), (u8.map Value.long), none, (u10.map Value.int), (u11.map Value.long), none], [.ref o, .int ov], w8, 0, 0)) rfl trivial ?_
          obtain ⟨fs65, g66, -, q67⟩ := hx_obj hw13 hG0 (s := 7) rfl (by decide)
          obtain ⟨p68, e69, hG70⟩ := hx_fr (k := 6) (s := 23) q67 rfl
          refine hx_gf (l := 168) rfl rfl rfl g66 e69 ?_
          obtain ⟨f71, g72⟩ := hx_lrow hw13 hG70 (s := 23) (n := 99) rfl (by decide)
          refine hx_len (l := 169) rfl rfl g72 rfl (by omega) (fun z74 h75 => ?_)
          refine hx_ic_ge (l := 172) rfl rfl (fun h76 => ?_) (fun h76 => ?_)
          · -- 182
            refine hx_lk (l := 183) (m := 0) rfl rfl (by decide) (fun z77 h78 => ?_)
            exact ax_ret rfl rfl trivial ⟨some (.long z77), _, rfl, hw13, hf14, hs15, (ck_ltop_ok (G := G) z77), trivial⟩
          · -- 172
            refine ax_go 1 (y := (173, [some (.ref o), some (.ref la), some (.int p), some (.int nn), some (.int ov), some (.int tn3), some (.int rt3), some (.int dy3), (u8.map Value.long), none, (u10.map Value.int), (u11.map Value.long), none], [.ref o], w8, 0, 0)) rfl trivial ?_
            refine hx_gf (l := 176) rfl rfl rfl g66 e69 ?_
            refine ax_go 1 (y := (178, [some (.ref o), some (.ref la), some (.int p), some (.int nn), some (.int ov), some (.int tn3), some (.int rt3), some (.int dy3), (u8.map Value.long), none, (u10.map Value.int), (u11.map Value.long), none], [.int ov, .ref p68], w8, 0, 0)) rfl trivial ?_
            refine hx_ll (l := 179) rfl rfl g72 (by omega) (by omega) (fun z79 h80 => ?_)
            refine ax_go 1 (y := (183, [some (.ref o), some (.ref la), some (.int p), some (.int nn), some (.int ov), some (.int tn3), some (.int rt3), some (.int dy3), (u8.map Value.long), none, (u10.map Value.int), (u11.map Value.long), none], [.long z79], w8, 0, 0)) rfl trivial ?_
            exact ax_ret rfl rfl trivial ⟨some (.long z79), _, rfl, hw13, hf14, hs15, (ck_ltop_ok (G := G) z79), trivial⟩
        · -- 89
          refine ax_go 1 (y := (90, [some (.ref o), some (.ref la), some (.int p), some (.int nn), some (.int ov), some (.int tn3), some (.int rt3), some (.int dy3), (u8.map Value.long), none, (u10.map Value.int), (u11.map Value.long), none], [.ref o], w8, 0, 0)) rfl trivial ?_
          obtain ⟨fs81, g82, -, q83⟩ := hx_obj hw13 hG0 (s := 7) rfl (by decide)
          obtain ⟨p84, e85, hG86⟩ := hx_fr (k := 6) (s := 23) q83 rfl
          refine hx_gf (l := 93) rfl rfl rfl g82 e85 ?_
          refine ax_go 1 (y := (95, [some (.ref o), some (.ref la), some (.int p), some (.int nn), some (.int ov), some (.int tn3), some (.int rt3), some (.int dy3), (u8.map Value.long), none, (u10.map Value.int), (u11.map Value.long), none], [.int tn3, .ref p84], w8, 0, 0)) rfl trivial ?_
          refine hx_k (l := 96) (m := 1) rfl rfl (by decide) (fun z87 h88 => ?_)
          refine hx_sub (l := 97) rfl rfl (fun z89 h90 => ?_)
          replace h90 := h90 (by omega) (by omega)
          obtain ⟨f91, g92⟩ := hx_lrow hw13 hG86 (s := 23) (n := 99) rfl (by decide)
          refine hx_ll (l := 98) rfl rfl g92 (by omega) (by omega) (fun z94 h95 => ?_)
          refine ax_go 1 (y := (100, [some (.ref o), some (.ref la), some (.int p), some (.int nn), some (.int ov), some (.int tn3), some (.int rt3), some (.int dy3), some (.long z94), none, (u10.map Value.int), (u11.map Value.long), none], [], w8, 0, 0)) rfl trivial ?_
          refine hx_k (l := 101) (m := 0) rfl rfl (by decide) (fun z96 h97 => ?_)
          refine ax_go 1 (y := (103, [some (.ref o), some (.ref la), some (.int p), some (.int nn), some (.int ov), some (.int tn3), some (.int rt3), some (.int dy3), some (.long z94), none, some (.int z96), (u11.map Value.long), none], [], w8, 0, 0)) rfl trivial ?_
          exact ct103 _ w8 tn3 rt3 dy3 z94 z96 u11 hw13 hf14 hs15 (by omega) (by omega) (by omega) (by omega) (by omega) (by omega) (Nat.lt_succ_self _)
    have ct30 : ∀ (nq : Nat) (w98 : ab_W) (tn : Int32) (i1 : Int32), ty_w sp_ G w98 → F w98 → ty_same G fz w w98 → (1 ≤ tn.toInt) → (tn.toInt ≤ 99) → (0 ≤ i1.toInt) → (i1.toInt ≤ 99) → (100 - i1.toInt).toNat < nq → ab_wp ro (ab_Ev ro ab_codes (d + 4)) 3 false (some .long) ab_k_X3_partsOver (fun o_1 => ∃ v w1, o_1 = (v, w1, 0, 0) ∧ ty_w sp_ G w1 ∧ F w1 ∧ ty_same G fz w w1 ∧ ck_res G (some (1, (-9223372036854775808), 9223372036854775807)) v ∧ (fun _ _ _ _ => True) ([.ref o, .ref la, .int p, .int nn, .int ov] : List Value) w v w1) (30, [some (.ref o), some (.ref la), some (.int p), some (.int nn), some (.int ov), some (.int tn), some (.int i1), none, none, none, none, none, none], [], w98, 0, 0) := by
      intro nq
      induction nq with
      | zero => intro w98 tn i1 hw103 hf104 hs105 i99 i100 i101 i102 hm; exact absurd hm (Nat.not_lt_zero _)
      | succ nq ih30 =>
        intro w98 tn i1 hw103 hf104 hs105 i99 i100 i101 i102 hm30
        refine ax_go 2 (y := (33, [some (.ref o), some (.ref la), some (.int p), some (.int nn), some (.int ov), some (.int tn), some (.int i1), none, none, none, none, none, none], [.ref o, .int i1], w98, 0, 0)) rfl trivial ?_
        obtain ⟨fs106, g107, -, q108⟩ := hx_obj hw103 hG0 (s := 7) rfl (by decide)
        obtain ⟨p109, e110, hG111⟩ := hx_fr (k := 6) (s := 23) q108 rfl
        refine hx_gf (l := 36) rfl rfl rfl g107 e110 ?_
        obtain ⟨f112, g113⟩ := hx_lrow hw103 hG111 (s := 23) (n := 99) rfl (by decide)
        refine hx_len (l := 37) rfl rfl g113 rfl (by omega) (fun z115 h116 => ?_)
        refine hx_ic_ge (l := 40) rfl rfl (fun h117 => ?_) (fun h117 => ?_)
        · -- 72
          refine ax_go 1 (y := (73, [some (.ref o), some (.ref la), some (.int p), some (.int nn), some (.int ov), some (.int tn), some (.int i1), none, none, none, none, none, none], [.ref la], w98, 0, 0)) rfl trivial ?_
          obtain ⟨fs118, g119, -, q120⟩ := hx_obj hw103 hG1 (s := 2) rfl (by decide)
          obtain ⟨p121, e122, hG123⟩ := hx_fr (k := 7) (s := 13) q120 rfl
          refine hx_gf (l := 76) rfl rfl rfl g119 e122 ?_
          refine hx_k (l := 77) (m := 2) rfl rfl (by decide) (fun z124 h125 => ?_)
          obtain ⟨f126, g127, r128⟩ := hx_row hw103 hG123 (s := 13) (kd := 0) (n := 4) rfl (by decide)
          refine hx_il (l := 78) rfl rfl g127 (by omega) (by omega) (fun z129 h130 => ?_)
          refine ax_go 1 (y := (80, [some (.ref o), some (.ref la), some (.int p), some (.int nn), some (.int ov), some (.int tn), some (.int z129), none, none, none, none, none, none], [], w98, 0, 0)) rfl trivial ?_
          refine hx_k (l := 81) (m := 0) rfl rfl (by decide) (fun z131 h132 => ?_)
          refine ax_go 1 (y := (83, [some (.ref o), some (.ref la), some (.int p), some (.int nn), some (.int ov), some (.int tn), some (.int z129), some (.int z131), none, none, none, none, none], [], w98, 0, 0)) rfl trivial ?_
          exact ct83 _ w98 tn z129 z131 none none none hw103 hf104 hs105 (by omega) (by omega) (by omega) (by omega) (Nat.lt_succ_self _)
        · -- 40
          refine ax_go 1 (y := (41, [some (.ref o), some (.ref la), some (.int p), some (.int nn), some (.int ov), some (.int tn), some (.int i1), none, none, none, none, none, none], [.ref o], w98, 0, 0)) rfl trivial ?_
          refine hx_gf (l := 44) rfl rfl rfl g107 e110 ?_
          refine ax_go 3 (y := (49, [some (.ref o), some (.ref la), some (.int p), some (.int nn), some (.int ov), some (.int tn), some (.int i1), none, none, none, none, none, none], [.ref o, .int i1, .int i1, .ref p109], w98, 0, 0)) rfl trivial ?_
          obtain ⟨p133, e134, hG135⟩ := hx_fr (k := 0) (s := 4) q108 rfl
          refine hx_gf (l := 52) rfl rfl rfl g107 e134 ?_
          obtain ⟨fs136, g137, -, q138⟩ := hx_obj hw103 hG135 (s := 4) rfl (by decide)
          obtain ⟨x139, e140, a141, b142⟩ := hx_fi (k := 3) (lo := (-2147483648)) (hi := 2147483647) q138 rfl
          refine hx_gf (l := 55) rfl rfl rfl g137 e140 ?_
          refine hx_ic_ne (l := 58) rfl rfl (fun h143 => ?_) (fun h143 => ?_)
          · -- 64
            refine hx_lk (l := 65) (m := 0) rfl rfl (by decide) (fun z144 h145 => ?_)
            refine hx_ls (s := 23) (l := 66) rfl rfl rfl hw103 hG111 g113 (by omega) (by omega) (fun w146 f147 g148 n151 hw152 n153 => ?_)
            have hs154 := ty_same_tr hs105 (n153 fz (hx_ok hfz (by decide)))
            have hf155 := hF _ _ (n153 pr_ (by decide)) hf104
            refine hx_iinc (x := i1) (n := 1) (l := 69) rfl rfl rfl (Nat.le_of_ble_eq_true rfl) (by omega) (by omega) (by decide) (fun z156 h157 => ?_)
            change ab_wp ro (ab_Ev ro ab_codes (d + 4)) 3 false (some .long) ab_k_X3_partsOver (fun o_1 => ∃ v w1, o_1 = (v, w1, 0, 0) ∧ ty_w sp_ G w1 ∧ F w1 ∧ ty_same G fz w w1 ∧ ck_res G (some (1, (-9223372036854775808), 9223372036854775807)) v ∧ (fun _ _ _ _ => True) ([.ref o, .ref la, .int p, .int nn, .int ov] : List Value) w v w1) (69, [some (.ref o), some (.ref la), some (.int p), some (.int nn), some (.int ov), some (.int tn), some (.int z156), none, none, none, none, none, none], [], w146, 0, 0)
            refine ax_go 1 (y := (30, [some (.ref o), some (.ref la), some (.int p), some (.int nn), some (.int ov), some (.int tn), some (.int z156), none, none, none, none, none, none], [], w146, 0, 0)) rfl trivial ?_
            exact ih30 w146 tn z156 hw152 hf155 hs154 (by omega) (by omega) (by omega) (by omega) (by omega)
          · -- 58
            refine hx_lk (l := 61) (m := 1000000000000) rfl rfl (by decide) (fun z158 h159 => ?_)
            refine ax_go 1 (y := (65, [some (.ref o), some (.ref la), some (.int p), some (.int nn), some (.int ov), some (.int tn), some (.int i1), none, none, none, none, none, none], [.long z158, .int i1, .ref p109], w98, 0, 0)) rfl trivial ?_
            refine hx_ls (s := 23) (l := 66) rfl rfl rfl hw103 hG111 g113 (by omega) (by omega) (fun w160 f161 g162 n165 hw166 n167 => ?_)
            have hs168 := ty_same_tr hs105 (n167 fz (hx_ok hfz (by decide)))
            have hf169 := hF _ _ (n167 pr_ (by decide)) hf104
            refine hx_iinc (x := i1) (n := 1) (l := 69) rfl rfl rfl (Nat.le_of_ble_eq_true rfl) (by omega) (by omega) (by decide) (fun z170 h171 => ?_)
            change ab_wp ro (ab_Ev ro ab_codes (d + 4)) 3 false (some .long) ab_k_X3_partsOver (fun o_1 => ∃ v w1, o_1 = (v, w1, 0, 0) ∧ ty_w sp_ G w1 ∧ F w1 ∧ ty_same G fz w w1 ∧ ck_res G (some (1, (-9223372036854775808), 9223372036854775807)) v ∧ (fun _ _ _ _ => True) ([.ref o, .ref la, .int p, .int nn, .int ov] : List Value) w v w1) (69, [some (.ref o), some (.ref la), some (.int p), some (.int nn), some (.int ov), some (.int tn), some (.int z170), none, none, none, none, none, none], [], w160, 0, 0)
            refine ax_go 1 (y := (30, [some (.ref o), some (.ref la), some (.int p), some (.int nn), some (.int ov), some (.int tn), some (.int z170), none, none, none, none, none, none], [], w160, 0, 0)) rfl trivial ?_
            exact ih30 w160 tn z170 hw166 hf169 hs168 (by omega) (by omega) (by omega) (by omega) (by omega)
    change ab_wp ro (ab_Ev ro ab_codes (d + 4)) 3 false (some .long) ab_k_X3_partsOver (fun o_1 => ∃ v w1, o_1 = (v, w1, 0, 0) ∧ ty_w sp_ G w1 ∧ F w1 ∧ ty_same G fz w w1 ∧ ck_res G (some (1, (-9223372036854775808), 9223372036854775807)) v ∧ (fun _ _ _ _ => True) ([.ref o, .ref la, .int p, .int nn, .int ov] : List Value) w v w1) (0, [some (.ref o), some (.ref la), some (.int p), some (.int nn), some (.int ov), none, none, none, none, none, none, none, none], [], w, 0, 0)
    refine ax_go 1 (y := (1, [some (.ref o), some (.ref la), some (.int p), some (.int nn), some (.int ov), none, none, none, none, none, none, none, none], [.ref o], w, 0, 0)) rfl trivial ?_
    obtain ⟨fs172, g173, -, q174⟩ := hx_obj hw hG0 (s := 7) rfl (by decide)
    obtain ⟨p175, e176, hG177⟩ := hx_fr (k := 0) (s := 4) q174 rfl
    refine hx_gf (l := 4) rfl rfl rfl g173 e176 ?_
    refine ax_go 2 (y := (6, [some (.ref o), some (.ref la), some (.int p), some (.int nn), some (.int ov), none, none, none, none, none, none, none, none], [.int p, .ref la, .ref p175], w, 0, 0)) rfl trivial ?_
    refine hx_k (l := 7) (m := 0) rfl rfl (by decide) (fun z178 h179 => ?_)
    obtain ⟨fs180, g181, -, q182⟩ := hx_obj hw hG177 (s := 4) rfl (by decide)
    refine hx_p0 (l := 10) (as := [.ref p175, .ref la, .int p, .int z178]) rfl rfl (hx_iv (j := 2) (n := 3) (o := p175) (r := []) rfl rfl g181 rfl) (hp_X0_ask (fz := ([(7, 0)] ++ fz)) hF (hx_app (by decide +kernel) (fun q hq => (by decide +kernel : ∀ q ∈ fb_hp_X3_partsOver, q ∈ fb_hp_X0_ask) q (hfz q hq))) (d + 0)) hw hf ⟨(hx_tr (G := G) (s := 4) (b := 0) hG177 (by decide)), (hx_tr (G := G) (s := 2) (b := 0) hG1 (by decide)), (ck_top_ok (G := G) p), (ck_top_ok (G := G) z178), trivial⟩ (fun o1 l1 p1 t1 n1 h1 h2 => by cases h1; exact (by obtain ⟨fs1, g1, e1⟩ := h2; obtain rfl := hx_inj g2 g1; obtain rfl := hx_inji e5 e1; exact ⟨by omega, by omega⟩)) (fun w183 hw184 hf185 m186 u191 => ?_)
    have hs187 := ty_same_tr (ty_same_rf w) (hx_sapp m186)
    obtain ⟨fs192, g193, -, q194⟩ := hx_obj hw184 hG0 (s := 7) rfl (by decide)
    obtain ⟨t195, ⟨fs196, g197, e198⟩, ht1, ht2⟩ := u191 _ _ _ _ rfl
    refine ax_go 1 (y := (11, [some (.ref o), some (.ref la), some (.int p), some (.int nn), some (.int ov), none, none, none, none, none, none, none, none], [.ref o], w183, 0, 0)) rfl trivial ?_
    refine hx_gf (l := 14) rfl rfl rfl g193 ((hx_kf m186 (hx_mem hG0 (by decide)) g173 g193).trans e176) ?_
    refine hx_gf (l := 17) rfl rfl rfl g197 e198 ?_
    refine ax_go 1 (y := (18, [some (.ref o), some (.ref la), some (.int p), some (.int nn), some (.int ov), none, none, none, none, none, none, none, none], [.ref o, .int t195], w183, 0, 0)) rfl trivial ?_
    obtain ⟨p199, e200, hG201⟩ := hx_fr (k := 6) (s := 23) q194 rfl
    refine hx_gf (l := 21) rfl rfl rfl g193 e200 ?_
    obtain ⟨f202, g203⟩ := hx_lrow hw184 hG201 (s := 23) (n := 99) rfl (by decide)
    refine hx_len (l := 22) rfl rfl g203 rfl (by omega) (fun z205 h206 => ?_)
    refine hx_min (l := 25) rfl rfl (by decide) rfl (fun z207 h208 => ?_)
    refine ax_go 1 (y := (27, [some (.ref o), some (.ref la), some (.int p), some (.int nn), some (.int ov), some (.int z207), none, none, none, none, none, none, none], [], w183, 0, 0)) rfl trivial ?_
    refine hx_k (l := 28) (m := 0) rfl rfl (by decide) (fun z209 h210 => ?_)
    refine ax_go 1 (y := (30, [some (.ref o), some (.ref la), some (.int p), some (.int nn), some (.int ov), some (.int z207), some (.int z209), none, none, none, none, none, none], [], w183, 0, 0)) rfl trivial ?_
    exact ct30 _ w183 z207 z209 hw184 hf185 hs187 (by omega) (by omega) (by omega) (by omega) (Nat.lt_succ_self _)
def fb_X8_odds : List (Nat × Nat) := [(8, 3), (8, 5), (19, 999), (32, 999), (33, 999), (34, 999), (35, 999), (44, 999), (45, 999), (1, 0), (18, 999), (2, 11), (2, 14), (1, 15), (54, 11), (7, 9), (30, 13), (30, 34), (30, 2), (30, 22), (30, 23), (30, 24), (30, 25), (46, 999), (47, 999), (30, 35), (30, 36), (7, 0), (24, 999), (37, 999), (30, 4), (30, 5), (30, 6), (30, 8), (30, 9), (30, 10), (30, 11), (30, 14), (30, 15), (30, 16), (30, 17), (30, 18), (30, 19), (30, 20), (30, 21), (39, 999), (40, 999), (41, 999), (30, 30), (30, 42), (30, 43), (30, 44), (1, 1), (1, 3), (1, 10), (1, 13), (8, 0), (30, 49), (2, 15), (8, 1)]
set_option maxHeartbeats 8000000 in
theorem h_X8_odds {ro : ab_R} {G : Nat → Nat} {fz : List (Nat × Nat)} {F : ab_W → Prop} (hF : ∀ w w', ty_same G pr_ w w' → F w → F w') (hfz : ∀ q ∈ fz, q ∈ fb_X8_odds) (d : Nat) : ck_ct ro sp_ G F fz (ab_Ev ro ab_codes (d + 6)) 101 [(2, 1, 0), (0, (-2147483648), 2147483647), (0, (-2147483648), 2147483647), (0, (-2147483648), 2147483647)] (some (1, (-9223372036854775808), 9223372036854775807)) 0 0 := by
  refine ck_hand (d := d + 5) (by decide) (fun as w hw hf has => ?_)
  match as, has with
  | [v0, v1, v2, v3], ⟨h0, h1, h2, h3, _⟩ =>
    obtain ⟨o, rfl, _, hG0⟩ := ty_refn h0 rfl rfl
    replace hG0 : G o = 1 := hG0
    obtain ⟨p, rfl, hl1, hh1⟩ := ty_int h1 rfl
    replace hl1 : ((-2147483648) : Int) ≤ p.toInt := hl1
    replace hh1 : p.toInt ≤ 2147483647 := hh1
    obtain ⟨nn, rfl, hl2, hh2⟩ := ty_int h2 rfl
    replace hl2 : ((-2147483648) : Int) ≤ nn.toInt := hl2
    replace hh2 : nn.toInt ≤ 2147483647 := hh2
    obtain ⟨ov, rfl, hl3, hh3⟩ := ty_int h3 rfl
    replace hl3 : ((-2147483648) : Int) ≤ ov.toInt := hl3
    replace hh3 : ov.toInt ≤ 2147483647 := hh3
    refine ⟨rfl, ?_⟩
    change ab_wp ro (ab_Ev ro ab_codes (d + 5)) 8 false (some .long) ab_k_X8_odds (fun o_1 => ∃ v w1, o_1 = (v, w1, 0, 0) ∧ ty_w sp_ G w1 ∧ F w1 ∧ ty_same G fz w w1 ∧ ck_res G (some (1, (-9223372036854775808), 9223372036854775807)) v ∧ ck_wit 0 0 [.ref o, .int p, .int nn, .int ov] v) (0, [some (.ref o), some (.int p), some (.int nn), some (.int ov)], [], w, 0, 0)
    refine ax_go 1 (y := (1, [some (.ref o), some (.int p), some (.int nn), some (.int ov)], [.ref o], w, 0, 0)) rfl trivial ?_
    obtain ⟨fs1, g2, -, q3⟩ := hx_obj hw hG0 (s := 1) rfl (by decide)
    obtain ⟨p4, e5, hG6⟩ := hx_fr (k := 1) (s := 2) q3 rfl
    refine hx_gf (l := 4) rfl rfl rfl g2 e5 ?_
    refine ax_go 1 (y := (5, [some (.ref o), some (.int p), some (.int nn), some (.int ov)], [.int p, .ref p4], w, 0, 0)) rfl trivial ?_
    obtain ⟨fs7, g8, -, q9⟩ := hx_obj hw hG6 (s := 2) rfl (by decide)
    refine hx_pi (l := 8) (as := [.ref p4, .int p]) rfl rfl (hx_iv (j := 5) (n := 1) (o := p4) (r := []) rfl rfl g8 rfl) (hp_X1_has (fz := fz) hF (fun q hq => (by decide +kernel : ∀ q ∈ fb_X8_odds, q ∈ fb_hp_X1_has) q (hfz q hq)) (d + 4)) hw hf ⟨(hx_tr (G := G) (s := 2) (b := 0) hG6 (by decide)), (ck_top_ok (G := G) p), trivial⟩ trivial (fun w10 z15 hw11 hf12 m13 a16 b17 u18 => ?_)
    rw [u18.1]
    obtain ⟨x19, e20, a21, b22⟩ := hx_fi (k := 11) (lo := 0) (hi := 10) q9 rfl
    have u23 := u18.2 _ _ _ _ rfl ⟨_, g8, e20⟩ rfl
    refine hx_if_eq (l := 11) rfl rfl (fun h24 => ?_) (fun h24 => ?_)
    · -- 31
      refine hx_lk (l := 34) (m := (-1)) rfl rfl (by decide) (fun z25 h26 => ?_)
      exact ax_ret rfl rfl trivial ⟨some (.long z25), _, rfl, hw, hf, (ty_same_rf w), (ck_ltop_ok (G := G) z25), trivial⟩
    · -- 11
      refine ax_go 1 (y := (12, [some (.ref o), some (.int p), some (.int nn), some (.int ov)], [.int nn], w, 0, 0)) rfl trivial ?_
      refine hx_if_lt (l := 15) rfl rfl (fun h27 => ?_) (fun h27 => ?_)
      · -- 31
        refine hx_lk (l := 34) (m := (-1)) rfl rfl (by decide) (fun z28 h29 => ?_)
        exact ax_ret rfl rfl trivial ⟨some (.long z28), _, rfl, hw, hf, (ty_same_rf w), (ck_ltop_ok (G := G) z28), trivial⟩
      · -- 15
        refine ax_go 1 (y := (16, [some (.ref o), some (.int p), some (.int nn), some (.int ov)], [.int nn], w, 0, 0)) rfl trivial ?_
        refine hx_k (l := 18) (m := 60) rfl rfl (by decide) (fun z30 h31 => ?_)
        refine hx_ic_gt (l := 21) rfl rfl (fun h32 => ?_) (fun h32 => ?_)
        · -- 31
          refine hx_lk (l := 34) (m := (-1)) rfl rfl (by decide) (fun z33 h34 => ?_)
          exact ax_ret rfl rfl trivial ⟨some (.long z33), _, rfl, hw, hf, (ty_same_rf w), (ck_ltop_ok (G := G) z33), trivial⟩
        · -- 21
          refine ax_go 1 (y := (22, [some (.ref o), some (.int p), some (.int nn), some (.int ov)], [.int ov], w, 0, 0)) rfl trivial ?_
          refine hx_if_lt (l := 25) rfl rfl (fun h35 => ?_) (fun h35 => ?_)
          · -- 31
            refine hx_lk (l := 34) (m := (-1)) rfl rfl (by decide) (fun z36 h37 => ?_)
            exact ax_ret rfl rfl trivial ⟨some (.long z36), _, rfl, hw, hf, (ty_same_rf w), (ck_ltop_ok (G := G) z36), trivial⟩
          · -- 25
            refine ax_go 1 (y := (26, [some (.ref o), some (.int p), some (.int nn), some (.int ov)], [.int ov], w, 0, 0)) rfl trivial ?_
            refine hx_k (l := 28) (m := 98) rfl rfl (by decide) (fun z38 h39 => ?_)
            refine hx_ic_le (l := 31) rfl rfl (fun h40 => ?_) (fun h40 => ?_)
            · -- 35
              refine ax_go 1 (y := (36, [some (.ref o), some (.int p), some (.int nn), some (.int ov)], [.ref o], w, 0, 0)) rfl trivial ?_
              obtain ⟨p41, e42, hG43⟩ := hx_fr (k := 9) (s := 7) q3 rfl
              refine hx_gf (l := 39) rfl rfl rfl g2 e42 ?_
              refine ax_go 1 (y := (40, [some (.ref o), some (.int p), some (.int nn), some (.int ov)], [.ref o, .ref p41], w, 0, 0)) rfl trivial ?_
              refine hx_gf (l := 43) rfl rfl rfl g2 e5 ?_
              refine ax_go 3 (y := (46, [some (.ref o), some (.int p), some (.int nn), some (.int ov)], [.int ov, .int nn, .int p, .ref p4, .ref p41], w, 0, 0)) rfl trivial ?_
              obtain ⟨fs44, g45, -, q46⟩ := hx_obj hw hG43 (s := 7) rfl (by decide)
              refine hx_pj (l := 49) (as := [.ref p41, .ref p4, .int p, .int nn, .int ov]) rfl rfl (hx_iv (j := 26) (n := 4) (o := p41) (r := []) rfl rfl g45 rfl) (hp_X3_partsOver (fz := fz) hF (fun q hq => (by decide +kernel : ∀ q ∈ fb_X8_odds, q ∈ fb_hp_X3_partsOver) q (hfz q hq)) (d + 0)) hw hf ⟨(hx_tr (G := G) (s := 7) (b := 0) hG43 (by decide)), (hx_tr (G := G) (s := 2) (b := 0) hG6 (by decide)), (ck_top_ok (G := G) p), (hx_ti (G := G) (lo := 0) (hi := 60) (by omega) (by omega)), (hx_ti (G := G) (lo := 0) (hi := 98) (by omega) (by omega)), trivial⟩ (fun l1 p1 n1 h1 h2 => by obtain ⟨h3, h4⟩ := h1; cases h3; cases h4; exact (by obtain ⟨fs1, g1, e1⟩ := h2; obtain rfl := hx_inj g8 g1; obtain rfl := hx_inji e20 e1; exact ⟨by omega, by omega⟩)) (fun w47 z52 hw48 hf49 m50 a53 b54 u55 => ?_)
              have hs51 := ty_same_tr (ty_same_rf w) m50
              exact ax_ret rfl rfl trivial ⟨some (.long z52), _, rfl, hw48, hf49, hs51, (ck_ltop_ok (G := G) z52), trivial⟩
            · -- 31
              refine hx_lk (l := 34) (m := (-1)) rfl rfl (by decide) (fun z56 h57 => ?_)
              exact ax_ret rfl rfl trivial ⟨some (.long z56), _, rfl, hw, hf, (ty_same_rf w), (ck_ltop_ok (G := G) z56), trivial⟩
def fb_X5_is : List (Nat × Nat) := [(8, 3), (8, 5), (19, 999), (32, 999), (33, 999), (34, 999), (35, 999), (44, 999), (45, 999), (1, 0), (18, 999), (2, 11), (2, 14), (1, 15), (54, 11), (4, 2), (7, 9), (30, 13), (30, 34), (30, 2), (30, 22), (30, 23), (30, 24), (30, 25), (46, 999), (47, 999), (30, 35), (30, 36), (7, 0), (24, 999), (37, 999), (30, 4), (30, 5), (30, 6), (30, 8), (30, 9), (30, 10), (30, 11), (30, 14), (30, 15), (30, 16), (30, 17), (30, 18), (30, 19), (30, 20), (30, 21), (39, 999), (40, 999), (41, 999), (30, 30), (30, 42), (30, 43), (30, 44), (1, 1), (1, 3), (1, 10), (1, 13), (8, 0), (30, 49), (2, 15), (8, 1)]
set_option maxHeartbeats 8000000 in
theorem h_X5_is {ro : ab_R} {G : Nat → Nat} {fz : List (Nat × Nat)} {F : ab_W → Prop} (hF : ∀ w w', ty_same G pr_ w w' → F w → F w') (hfz : ∀ q ∈ fz, q ∈ fb_X5_is) (d : Nat) : ck_ct ro sp_ G F fz (ab_Ev ro ab_codes (d + 1)) 63 [(2, 8, 0), (3, 2000000, 2000026)] (some (0, 0, 1)) 0 0 := by
  refine ck_hand (d := d + 0) (by decide) (fun as w hw hf has => ?_)
  match as, has with
  | [v0, v1], ⟨h0, h1, _⟩ =>
    obtain ⟨o, rfl, _, hG0⟩ := ty_refn h0 rfl rfl
    replace hG0 : G o = 8 := hG0
    obtain ⟨wd, rfl⟩ := ty_far h1 rfl
    refine ⟨rfl, ?_⟩
    obtain ⟨tx, htx, hln⟩ := hx_tx h1
    have ct28 : ∀ (nq : Nat) (w1 : ab_W) (i : Int32) (ts : Int32) (te : Int32), ty_w sp_ G w1 → F w1 → ty_same G fz w w1 → (hx_has w1 o 5 3 (.int ts)) → (hx_has w1 o 5 4 (.int te)) → (te.toInt - ts.toInt = (tx.length : Int)) → (0 ≤ i.toInt) → (i.toInt ≤ (tx.length : Int)) → ((tx.length : Int) + 1 - i.toInt).toNat < nq → ab_wp ro (ab_Ev ro ab_codes d) 5 false (some .boolean) ab_k_X5_is (fun o_1 => ∃ v w1, o_1 = (v, w1, 0, 0) ∧ ty_w sp_ G w1 ∧ F w1 ∧ ty_same G fz w w1 ∧ ck_res G (some (0, 0, 1)) v ∧ ck_wit 0 0 [.ref o, .ref wd] v) (28, [some (.ref o), some (.ref wd), some (.int i)], [], w1, 0, 0) := by
      intro nq
      induction nq with
      | zero => intro w1 i ts te hw7 hf8 hs9 hh2 hh3 i4 i5 i6 hm; exact absurd hm (Nat.not_lt_zero _)
      | succ nq ih28 =>
        intro w1 i ts te hw7 hf8 hs9 hh2 hh3 i4 i5 i6 hm28
        obtain ⟨fs10, g11, e12⟩ := hh2
        have q13 := hx_oq hw7 g11 hG0 (s := 8) rfl
        obtain ⟨x14, e15, a16, b17⟩ := hx_fi (k := 3) (lo := 0) (hi := 400) q13 rfl
        obtain rfl : ts = x14 := hx_inji e12 e15
        obtain ⟨fs18, g19, e20⟩ := hh3
        obtain rfl : fs10 = fs18 := hx_inj g11 g19
        obtain ⟨x21, e22, a23, b24⟩ := hx_fi (k := 4) (lo := 0) (hi := 400) q13 rfl
        obtain rfl : te = x21 := hx_inji e20 e22
        refine ax_go 2 (y := (30, [some (.ref o), some (.ref wd), some (.int i)], [.ref wd, .int i], w1, 0, 0)) rfl trivial ?_
        refine hx_sl (l := 33) rfl rfl rfl htx hln rfl (fun z25 h26 => ?_)
        refine hx_ic_ge (l := 36) rfl rfl (fun h27 => ?_) (fun h27 => ?_)
        · -- 63
          refine hx_k (l := 64) (m := 1) rfl rfl (by decide) (fun z28 h29 => ?_)
          exact ax_ret rfl rfl ⟨hx_01 (by omega) (by omega), trivial⟩ ⟨some (.int z28), _, rfl, hw7, hf8, hs9, (hx_ti (G := G) (lo := 0) (hi := 1) (by omega) (by omega)), trivial⟩
        · -- 36
          refine ax_go 1 (y := (37, [some (.ref o), some (.ref wd), some (.int i)], [.ref o], w1, 0, 0)) rfl trivial ?_
          obtain ⟨p30, e31, hG32⟩ := hx_fr (k := 0) (s := 24) q13 rfl
          refine hx_gf (l := 40) rfl rfl rfl g11 e31 ?_
          refine ax_go 1 (y := (41, [some (.ref o), some (.ref wd), some (.int i)], [.ref o, .ref p30], w1, 0, 0)) rfl trivial ?_
          refine hx_gf (l := 44) rfl rfl rfl g11 e12 ?_
          refine ax_go 1 (y := (45, [some (.ref o), some (.ref wd), some (.int i)], [.int i, .int ts, .ref p30], w1, 0, 0)) rfl trivial ?_
          refine hx_add (l := 46) rfl rfl (fun z33 h34 => ?_)
          replace h34 := h34 (by omega) (by omega)
          obtain ⟨f35, g36, r37⟩ := hx_row hw7 hG32 (s := 24) (kd := 0) (n := 400) rfl (by decide)
          refine hx_il (l := 47) rfl rfl g36 (by omega) (by omega) (fun z38 h39 => ?_)
          refine ax_go 2 (y := (49, [some (.ref o), some (.ref wd), some (.int i)], [.int i, .ref wd, .int z38], w1, 0, 0)) rfl trivial ?_
          refine hx_sc (l := 52) rfl rfl rfl htx (by omega) (by omega) rfl (fun z40 => ?_)
          refine hx_ic_eq (l := 55) rfl rfl (fun h42 => ?_) (fun h42 => ?_)
          · -- 57
            refine hx_iinc (x := i) (n := 1) (l := 60) rfl rfl rfl (Nat.le_of_ble_eq_true rfl) (by omega) (by omega) (by decide) (fun z43 h44 => ?_)
            change ab_wp ro (ab_Ev ro ab_codes d) 5 false (some .boolean) ab_k_X5_is (fun o_1 => ∃ v w1, o_1 = (v, w1, 0, 0) ∧ ty_w sp_ G w1 ∧ F w1 ∧ ty_same G fz w w1 ∧ ck_res G (some (0, 0, 1)) v ∧ ck_wit 0 0 [.ref o, .ref wd] v) (60, [some (.ref o), some (.ref wd), some (.int z43)], [], w1, 0, 0)
            refine ax_go 1 (y := (28, [some (.ref o), some (.ref wd), some (.int z43)], [], w1, 0, 0)) rfl trivial ?_
            exact ih28 w1 z43 ts te hw7 hf8 hs9 ⟨_, g11, e12⟩ ⟨_, g11, e20⟩ (by omega) (by omega) (by omega) (by omega)
          · -- 55
            refine hx_k (l := 56) (m := 0) rfl rfl (by decide) (fun z45 h46 => ?_)
            exact ax_ret rfl rfl ⟨hx_01 (by omega) (by omega), trivial⟩ ⟨some (.int z45), _, rfl, hw7, hf8, hs9, (hx_ti (G := G) (lo := 0) (hi := 1) (by omega) (by omega)), trivial⟩
    change ab_wp ro (ab_Ev ro ab_codes d) 5 false (some .boolean) ab_k_X5_is (fun o_1 => ∃ v w1, o_1 = (v, w1, 0, 0) ∧ ty_w sp_ G w1 ∧ F w1 ∧ ty_same G fz w w1 ∧ ck_res G (some (0, 0, 1)) v ∧ ck_wit 0 0 [.ref o, .ref wd] v) (0, [some (.ref o), some (.ref wd), none], [], w, 0, 0)
    refine ax_go 1 (y := (1, [some (.ref o), some (.ref wd), none], [.ref o], w, 0, 0)) rfl trivial ?_
    obtain ⟨fs47, g48, -, q49⟩ := hx_obj hw hG0 (s := 8) rfl (by decide)
    obtain ⟨x50, e51, a52, b53⟩ := hx_fi (k := 5) (lo := (-2147483648)) (hi := 2147483647) q49 rfl
    refine hx_gf (l := 4) rfl rfl rfl g48 e51 ?_
    refine hx_k (l := 5) (m := 1) rfl rfl (by decide) (fun z54 h55 => ?_)
    refine hx_ic_ne (l := 8) rfl rfl (fun h56 => ?_) (fun h56 => ?_)
    · -- 24
      refine hx_k (l := 25) (m := 0) rfl rfl (by decide) (fun z57 h58 => ?_)
      exact ax_ret rfl rfl ⟨hx_01 (by omega) (by omega), trivial⟩ ⟨some (.int z57), _, rfl, hw, hf, (ty_same_rf w), (hx_ti (G := G) (lo := 0) (hi := 1) (by omega) (by omega)), trivial⟩
    · -- 8
      refine ax_go 1 (y := (9, [some (.ref o), some (.ref wd), none], [.ref o], w, 0, 0)) rfl trivial ?_
      obtain ⟨x59, e60, a61, b62⟩ := hx_fi (k := 4) (lo := 0) (hi := 400) q49 rfl
      refine hx_gf (l := 12) rfl rfl rfl g48 e60 ?_
      refine ax_go 1 (y := (13, [some (.ref o), some (.ref wd), none], [.ref o, .int x59], w, 0, 0)) rfl trivial ?_
      obtain ⟨x63, e64, a65, b66⟩ := hx_fi (k := 3) (lo := 0) (hi := 400) q49 rfl
      refine hx_gf (l := 16) rfl rfl rfl g48 e64 ?_
      refine hx_sub (l := 17) rfl rfl (fun z67 h68 => ?_)
      replace h68 := h68 (by omega) (by omega)
      refine ax_go 1 (y := (18, [some (.ref o), some (.ref wd), none], [.ref wd, .int z67], w, 0, 0)) rfl trivial ?_
      refine hx_sl (l := 21) rfl rfl rfl htx hln rfl (fun z69 h70 => ?_)
      refine hx_ic_eq (l := 24) rfl rfl (fun h71 => ?_) (fun h71 => ?_)
      · -- 26
        refine hx_k (l := 27) (m := 0) rfl rfl (by decide) (fun z72 h73 => ?_)
        refine ax_go 1 (y := (28, [some (.ref o), some (.ref wd), some (.int z72)], [], w, 0, 0)) rfl trivial ?_
        exact ct28 _ w z72 x63 x59 hw hf (ty_same_rf w) ⟨_, g48, e64⟩ ⟨_, g48, e60⟩ (by omega) (by omega) (by omega) (Nat.lt_succ_self _)
      · -- 24
        refine hx_k (l := 25) (m := 0) rfl rfl (by decide) (fun z74 h75 => ?_)
        exact ax_ret rfl rfl ⟨hx_01 (by omega) (by omega), trivial⟩ ⟨some (.int z74), _, rfl, hw, hf, (ty_same_rf w), (hx_ti (G := G) (lo := 0) (hi := 1) (by omega) (by omega)), trivial⟩
