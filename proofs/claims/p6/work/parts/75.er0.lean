/-! the evaluator's contracts, by how far a walk of the grammar goes -/
def EvK (ro : ab_R) (G : Nat → Nat) (F : ab_W → Prop) (fz : List (Nat × Nat)) (n K j off : Nat) (r : Option ty_A) : Prop := ∀ (b pk : Nat) (f : Nat → Int32) (e io g : Int32) (q D : Nat), (0 ≤ e.toInt ∧ e.toInt ≤ 2800) → (0 ≤ g.toInt ∧ g.toInt ≤ e.toInt) → gr (cf f) e.toInt.toNat (decide (io.toInt ≠ 0)) n b K g.toInt.toNat = some q → 6 * b + off ≤ D → hx_ct ro sp_ G (F9 G F) fz (ab_Ev ro ab_codes D) j [(2, 30, 0), (0, 0, 1)] r (evP pk f g e io) (evR pk f q e io)
def fb_hv_sumOf : List (Nat × Nat) := [(8, 3), (8, 5), (19, 999), (32, 999), (33, 999), (34, 999), (35, 999), (44, 999), (45, 999), (1, 0), (18, 999), (2, 11), (2, 14), (1, 15), (54, 11), (4, 2), (7, 9), (30, 13), (30, 34), (30, 2), (30, 23), (30, 25), (46, 999), (47, 999), (30, 35), (30, 36)]
set_option maxHeartbeats 8000000 in
theorem hv_sumOf {ro : ab_R} {G : Nat → Nat} {fz : List (Nat × Nat)} {F : ab_W → Prop} (hF : ∀ w w', ty_same G prM w w' → F w → F w') (d : Nat) {pk : Nat} {f : Nat → Int32} {g e io : Int32} {n b q : Nat} (he : 0 ≤ e.toInt ∧ e.toInt ≤ 2800) (hg : 0 ≤ g.toInt ∧ g.toInt ≤ e.toInt) (hgr : gr (cf f) e.toInt.toNat (decide (io.toInt ≠ 0)) n b 2 g.toInt.toNat = some q) (hD : 6 * b + 8 ≤ d + 6) (ihtermOf : ∀ m, m < n → EvK ro G F fz m 1 176 7 (some (1, (-9223372036854775808), 9223372036854775807))) (hfz : ∀ q ∈ fz, q ∈ fb_hv_sumOf) : hx_ct ro sp_ G (F9 G F) fz (ab_Ev ro ab_codes (d + 6)) 175 [(2, 30, 0), (0, 0, 1)] (some (1, (-9223372036854775808), 9223372036854775807)) (evP pk f g e io) (evR pk f q e io) := by
  have hFF := F9_same hF
  refine hx_hand (d := d + 5) (by decide) (fun as w hw hf has hP => ?_)
  match as, has with
  | [v0, v1], ⟨h0, h1, _⟩ =>
    obtain ⟨o, rfl, _, hG0⟩ := ty_refn h0 rfl rfl
    replace hG0 : G o = 30 := hG0
    obtain ⟨lv, rfl, hl1, hh1⟩ := ty_int h1 rfl
    replace hl1 : (0 : Int) ≤ lv.toInt := hl1
    replace hh1 : lv.toInt ≤ 1 := hh1
    refine ⟨rfl, ?_⟩
    obtain ⟨fs0, g0, i2, i22, i23, i25, gk0⟩ := hP o lv rfl
    have hG_pk : G pk = 32 := hx_sref hw g0 hG0 i2
    have ct6 : ∀ (nq : Nat) (w1 : ab_W) (vs : Int64) (u4 : Option Int32) (u5 : Option Int64) (gq : Int32) (mq : Nat), ty_w sp_ G w1 → (F9 G F) w1 → ty_same G fz w w1 → (hx_has w1 o 9 22 (.int gq)) → (hx_has w1 o 9 2 (.ref pk)) → (hx_has w1 o 9 23 (.int e)) → (hx_has w1 o 9 25 (.int io)) → (w1[pk]? = some (.inl (0, 5721, .inl f))) → (gr (cf f) e.toInt.toNat (decide (io.toInt ≠ 0)) mq b 4 gq.toInt.toNat = some q) → (mq < n) → (0 ≤ gq.toInt) → (gq.toInt ≤ e.toInt) → ((mq : Int)).toNat < nq → ab_wp ro (ab_Ev ro ab_codes (d + 5)) 9 false (some .long) ab_k_X9_sumOf (fun o_1 => ∃ v w1, o_1 = (v, w1, 0, 0) ∧ ty_w sp_ G w1 ∧ (F9 G F) w1 ∧ ty_same G fz w w1 ∧ ck_res G (some (1, (-9223372036854775808), 9223372036854775807)) v ∧ (evR pk f q e io) ([.ref o, .int lv] : List Value) w v w1) (6, [some (.ref o), some (.int lv), some (.long vs), none, (u4.map Value.int), (u5.map Value.long), none], [], w1, 0, 0) := by
      intro nq
      induction nq with
      | zero => intro w1 vs u4 u5 gq mq hw10 hf11 hs12 hh2 hh3 hh4 hh5 g6 hgq i7 i8 i9 hm; exact absurd hm (Nat.not_lt_zero _)
      | succ nq ih6 =>
        intro w1 vs u4 u5 gq mq hw10 hf11 hs12 hh2 hh3 hh4 hh5 g6 hgq i7 i8 i9 hm6
        obtain ⟨fs13, g14, e15⟩ := hh2
        have q16 := hx_oq hw10 g14 hG0 (s := 30) rfl
        obtain ⟨x17, e18, a19, b20⟩ := hx_fi (k := 22) (lo := (-2147483648)) (hi := 2147483647) q16 rfl
        obtain rfl : gq = x17 := hx_inji e15 e18
        obtain ⟨fs21, g22, e23⟩ := hh3
        obtain rfl : fs13 = fs21 := hx_inj g14 g22
        obtain ⟨fs24, g25, e26⟩ := hh4
        obtain rfl : fs13 = fs24 := hx_inj g14 g25
        obtain ⟨fs27, g28, e29⟩ := hh5
        obtain rfl : fs13 = fs27 := hx_inj g14 g28
        refine ax_go 2 (y := (8, [some (.ref o), some (.int lv), some (.long vs), none, (u4.map Value.int), (u5.map Value.long), none], [.ref o, .ref o], w1, 0, 0)) rfl trivial ?_
        refine hx_gf (l := 11) rfl rfl rfl g14 e15 ?_
        refine hx_pi (l := 14) (as := [.ref o, .int gq]) rfl rfl (hx_iv (j := 172) (n := 1) (o := o) (r := []) rfl rfl g14 rfl) (hp_X9_codeAt (fz := fz) hF (fun q hq => (by decide +kernel : ∀ q ∈ fb_hv_sumOf, q ∈ fb_hp_X9_codeAt) q (hfz q hq)) (d + 4)) hw10 hf11 ⟨(hx_tr (G := G) (s := 30) (b := 0) hG0 (by decide)), (ck_top_ok (G := G) gq), trivial⟩ (fun y0 y1 y2 h1 h2 => by cases h1; obtain ⟨fs1, g1, e1⟩ := h2; obtain rfl := hx_inj g14 g1; obtain rfl := hx_inji e26 e1; exact ⟨by omega, by omega⟩) (fun w30 z35 hw31 hf32 m33 a36 b37 u38 => ?_)
        rw [u38.1]
        have u39 := u38.2 _ _ _ _ _ _ rfl ⟨_, g14, e23⟩ g6 ⟨_, g14, e26⟩ rfl
        clear u38
        refine hx_k (l := 16) (m := 43) rfl rfl (by decide) (fun z40 h41 => ?_)
        refine hx_pi (l := 19) (as := [.int z40]) rfl rfl rfl (hp_X9_sign (fz := fz) hF (fun q hq => (by decide +kernel : ∀ q ∈ fb_hv_sumOf, q ∈ fb_hp_X9_sign) q (hfz q hq)) (d + 4)) hw10 hf11 ⟨(hx_ti (G := G) (lo := 0) (hi := 255) (by omega) (by omega)), trivial⟩ trivial (fun w42 z47 hw43 hf44 m45 a48 b49 u50 => ?_)
        rw [u50.1]
        have u51 := u50.2 _ _ rfl rfl
        refine hx_ic_eq (l := 22) rfl rfl (fun h52 => ?_) (fun h52 => ?_)
        · -- 38
          obtain ⟨m1, y1, hm1, hz1, hz2⟩ := ((gr_sl hgq).resolve_right (fun zz => zz.1 (by omega))).2
          have lt1 := gc_lt (c := cf f) (e := e.toInt.toNat) (p := gq.toInt.toNat) (by omega)
          refine ax_go 2 (y := (40, [some (.ref o), some (.int lv), some (.long vs), none, (u4.map Value.int), (u5.map Value.long), none], [.ref o, .ref o], w1, 0, 0)) rfl trivial ?_
          refine hx_gf (l := 43) rfl rfl rfl g14 e15 ?_
          refine hx_pi (l := 46) (as := [.ref o, .int gq]) rfl rfl (hx_iv (j := 172) (n := 1) (o := o) (r := []) rfl rfl g14 rfl) (hp_X9_codeAt (fz := fz) hF (fun q hq => (by decide +kernel : ∀ q ∈ fb_hv_sumOf, q ∈ fb_hp_X9_codeAt) q (hfz q hq)) (d + 4)) hw10 hf11 ⟨(hx_tr (G := G) (s := 30) (b := 0) hG0 (by decide)), (ck_top_ok (G := G) gq), trivial⟩ (fun y0 y1 y2 h1 h2 => by cases h1; obtain ⟨fs1, g1, e1⟩ := h2; obtain rfl := hx_inj g14 g1; obtain rfl := hx_inji e26 e1; exact ⟨by omega, by omega⟩) (fun w53 z58 hw54 hf55 m56 a59 b60 u61 => ?_)
          rw [u61.1]
          have u62 := u61.2 _ _ _ _ _ _ rfl ⟨_, g14, e23⟩ g6 ⟨_, g14, e26⟩ rfl
          clear u61
          refine hx_k (l := 48) (m := 43) rfl rfl (by decide) (fun z63 h64 => ?_)
          refine hx_pi (l := 51) (as := [.int z63]) rfl rfl rfl (hp_X9_sign (fz := fz) hF (fun q hq => (by decide +kernel : ∀ q ∈ fb_hv_sumOf, q ∈ fb_hp_X9_sign) q (hfz q hq)) (d + 4)) hw10 hf11 ⟨(hx_ti (G := G) (lo := 0) (hi := 255) (by omega) (by omega)), trivial⟩ trivial (fun w65 z70 hw66 hf67 m68 a71 b72 u73 => ?_)
          rw [u73.1]
          have u74 := u73.2 _ _ rfl rfl
          refine hx_ic_ne (l := 54) rfl rfl (fun h75 => ?_) (fun h75 => ?_)
          · -- 58
            refine hx_k (l := 59) (m := 0) rfl rfl (by decide) (fun z76 h77 => ?_)
            refine ax_go 3 (y := (63, [some (.ref o), some (.int lv), some (.long vs), none, some (.int z76), (u5.map Value.long), none], [.ref o, .ref o], w1, 0, 0)) rfl trivial ?_
            refine hx_gf (l := 66) rfl rfl rfl g14 e15 ?_
            refine hx_k (l := 67) (m := 1) rfl rfl (by decide) (fun z78 h79 => ?_)
            refine hx_add (l := 68) rfl rfl (fun z80 h81 => ?_)
            replace h81 := h81 (by omega) (by omega)
            refine hx_pf (q := (0, 0, 0, 0, (-2147483648), 2147483647)) (s := 30) (l := 71) (v := .int z80) rfl rfl rfl (by decide) rfl rfl rfl hw10 hG0 g14 trivial (ck_top_ok (G := G) z80) (fun w82 fs83 g84 e85 o86 n87 hw88 n89 => ?_)
            have hs90 := ty_same_tr hs12 (n89 fz (hx_ok hfz (by decide)))
            have hf91 := hFF _ _ (n89 pr_ (by decide)) hf11
            refine ax_go 2 (y := (73, [some (.ref o), some (.int lv), some (.long vs), none, some (.int z76), (u5.map Value.long), none], [.int lv, .ref o], w82, 0, 0)) rfl trivial ?_
            refine hx_pj (l := 76) (as := [.ref o, .int lv]) rfl rfl (hx_iv (j := 176) (n := 1) (o := o) (r := []) rfl rfl g84 rfl) (ihtermOf m1 (by omega) b pk f e io z80 y1 (d + 5) he ⟨by omega, by omega⟩ (by rw [show z80.toInt.toNat = gq.toInt.toNat + 1 by omega]; exact hz1) (by omega)) hw88 hf91 ⟨(hx_tr (G := G) (s := 30) (b := 0) hG0 (by decide)), (hx_ti (G := G) (lo := 0) (hi := 1) (by omega) (by omega)), trivial⟩ (fun o1 l1 h1 => by cases h1; exact ⟨_, g84, ((o86 2 (by decide)).trans e23), e85, ((o86 23 (by decide)).trans e26), ((o86 25 (by decide)).trans e29), ((n87 _ (hx_ne hG_pk hG0 (by decide))).trans g6)⟩) (fun w92 z97 hw93 hf94 m95 a98 b99 u100 => ?_)
            have hs96 := ty_same_tr hs90 m95
            obtain ⟨gN101, hN102, fsN103, gA104, iA105, iB106, iC107, iD108, gK109⟩ := u100 _ _ rfl
            have le110 := gr_le hz1 (by omega)
            refine ax_go 3 (y := (81, [some (.ref o), some (.int lv), some (.long vs), none, some (.int z76), some (.long z97), none], [.int z76, .ref o], w92, 0, 0)) rfl trivial ?_
            refine hx_if_eq (l := 84) rfl rfl (fun h111 => ?_) (fun h111 => by omega)
            refine ax_go 2 (y := (94, [some (.ref o), some (.int lv), some (.long vs), none, some (.int z76), some (.long z97), none], [.long z97, .long vs, .ref o], w92, 0, 0)) rfl trivial ?_
            refine hx_anyl (l := 95) rfl rfl (fun z112 => ?_)
            refine ax_go 1 (y := (96, [some (.ref o), some (.int lv), some (.long vs), none, some (.int z76), some (.long z97), none], [.int lv, .long z112, .ref o], w92, 0, 0)) rfl trivial ?_
            refine hx_cj (l := 99) (as := [.ref o, .long z112, .int lv]) rfl rfl (hx_iv (j := 174) (n := 2) (o := o) (r := []) rfl rfl gA104 rfl) (h_X9_bounded (fz := ([(32, 999), (30, 2), (30, 22), (30, 23), (30, 25)] ++ fz)) hF (hx_app (by decide +kernel) (fun q hq => (by decide +kernel : ∀ q ∈ fb_hv_sumOf, q ∈ fb_X9_bounded) q (hfz q hq))) (d + 4)) hw93 hf94 ⟨(hx_tr (G := G) (s := 30) (b := 0) hG0 (by decide)), (ck_ltop_ok (G := G) z112), (hx_ti (G := G) (lo := 0) (hi := 1) (by omega) (by omega)), trivial⟩ (fun w113 z118 hw114 hf115 m116 => ?_)
            have hs117 := ty_same_tr hs96 (hx_sapp m116)
            obtain ⟨fs122, g123, -, q124⟩ := hx_obj hw114 hG0 (s := 30) rfl (by decide)
            refine ax_go 2 (y := (6, [some (.ref o), some (.int lv), some (.long z118), none, some (.int z76), some (.long z97), none], [], w113, 0, 0)) rfl trivial ?_
            exact ih6 w113 z118 (some z76) (some z97) gN101 m1 hw114 hf115 hs117 ⟨_, g123, ((hx_kf m116 (hx_mem hG0 (by decide)) gA104 g123).trans iB106)⟩ ⟨_, g123, ((hx_kf m116 (hx_mem hG0 (by decide)) gA104 g123).trans iA105)⟩ ⟨_, g123, ((hx_kf m116 (hx_mem hG0 (by decide)) gA104 g123).trans iC107)⟩ ⟨_, g123, ((hx_kf m116 (hx_mem hG0 (by decide)) gA104 g123).trans iD108)⟩ ((hx_kr m116 (hx_mem hG_pk (by decide))).trans gK109) (by rw [show gN101.toInt.toNat = y1 by omega]; exact hz2) (by omega) (by omega) (by omega) (by omega)
          · -- 54
            refine hx_k (l := 55) (m := 1) rfl rfl (by decide) (fun z125 h126 => ?_)
            refine ax_go 4 (y := (63, [some (.ref o), some (.int lv), some (.long vs), none, some (.int z125), (u5.map Value.long), none], [.ref o, .ref o], w1, 0, 0)) rfl trivial ?_
            refine hx_gf (l := 66) rfl rfl rfl g14 e15 ?_
            refine hx_k (l := 67) (m := 1) rfl rfl (by decide) (fun z127 h128 => ?_)
            refine hx_add (l := 68) rfl rfl (fun z129 h130 => ?_)
            replace h130 := h130 (by omega) (by omega)
            refine hx_pf (q := (0, 0, 0, 0, (-2147483648), 2147483647)) (s := 30) (l := 71) (v := .int z129) rfl rfl rfl (by decide) rfl rfl rfl hw10 hG0 g14 trivial (ck_top_ok (G := G) z129) (fun w131 fs132 g133 e134 o135 n136 hw137 n138 => ?_)
            have hs139 := ty_same_tr hs12 (n138 fz (hx_ok hfz (by decide)))
            have hf140 := hFF _ _ (n138 pr_ (by decide)) hf11
            refine ax_go 2 (y := (73, [some (.ref o), some (.int lv), some (.long vs), none, some (.int z125), (u5.map Value.long), none], [.int lv, .ref o], w131, 0, 0)) rfl trivial ?_
            refine hx_pj (l := 76) (as := [.ref o, .int lv]) rfl rfl (hx_iv (j := 176) (n := 1) (o := o) (r := []) rfl rfl g133 rfl) (ihtermOf m1 (by omega) b pk f e io z129 y1 (d + 5) he ⟨by omega, by omega⟩ (by rw [show z129.toInt.toNat = gq.toInt.toNat + 1 by omega]; exact hz1) (by omega)) hw137 hf140 ⟨(hx_tr (G := G) (s := 30) (b := 0) hG0 (by decide)), (hx_ti (G := G) (lo := 0) (hi := 1) (by omega) (by omega)), trivial⟩ (fun o1 l1 h1 => by cases h1; exact ⟨_, g133, ((o135 2 (by decide)).trans e23), e134, ((o135 23 (by decide)).trans e26), ((o135 25 (by decide)).trans e29), ((n136 _ (hx_ne hG_pk hG0 (by decide))).trans g6)⟩) (fun w141 z146 hw142 hf143 m144 a147 b148 u149 => ?_)
            have hs145 := ty_same_tr hs139 m144
            obtain ⟨gN150, hN151, fsN152, gA153, iA154, iB155, iC156, iD157, gK158⟩ := u149 _ _ rfl
            have le159 := gr_le hz1 (by omega)
            refine ax_go 3 (y := (81, [some (.ref o), some (.int lv), some (.long vs), none, some (.int z125), some (.long z146), none], [.int z125, .ref o], w141, 0, 0)) rfl trivial ?_
            refine hx_if_eq (l := 84) rfl rfl (fun h160 => by omega) (fun h160 => ?_)
            refine ax_go 2 (y := (87, [some (.ref o), some (.int lv), some (.long vs), none, some (.int z125), some (.long z146), none], [.long z146, .long vs, .ref o], w141, 0, 0)) rfl trivial ?_
            refine hx_anyl (l := 88) rfl rfl (fun z161 => ?_)
            refine ax_go 2 (y := (96, [some (.ref o), some (.int lv), some (.long vs), none, some (.int z125), some (.long z146), none], [.int lv, .long z161, .ref o], w141, 0, 0)) rfl trivial ?_
            refine hx_cj (l := 99) (as := [.ref o, .long z161, .int lv]) rfl rfl (hx_iv (j := 174) (n := 2) (o := o) (r := []) rfl rfl gA153 rfl) (h_X9_bounded (fz := ([(32, 999), (30, 2), (30, 22), (30, 23), (30, 25)] ++ fz)) hF (hx_app (by decide +kernel) (fun q hq => (by decide +kernel : ∀ q ∈ fb_hv_sumOf, q ∈ fb_X9_bounded) q (hfz q hq))) (d + 4)) hw142 hf143 ⟨(hx_tr (G := G) (s := 30) (b := 0) hG0 (by decide)), (ck_ltop_ok (G := G) z161), (hx_ti (G := G) (lo := 0) (hi := 1) (by omega) (by omega)), trivial⟩ (fun w162 z167 hw163 hf164 m165 => ?_)
            have hs166 := ty_same_tr hs145 (hx_sapp m165)
            obtain ⟨fs171, g172, -, q173⟩ := hx_obj hw163 hG0 (s := 30) rfl (by decide)
            refine ax_go 2 (y := (6, [some (.ref o), some (.int lv), some (.long z167), none, some (.int z125), some (.long z146), none], [], w162, 0, 0)) rfl trivial ?_
            exact ih6 w162 z167 (some z125) (some z146) gN150 m1 hw163 hf164 hs166 ⟨_, g172, ((hx_kf m165 (hx_mem hG0 (by decide)) gA153 g172).trans iB155)⟩ ⟨_, g172, ((hx_kf m165 (hx_mem hG0 (by decide)) gA153 g172).trans iA154)⟩ ⟨_, g172, ((hx_kf m165 (hx_mem hG0 (by decide)) gA153 g172).trans iC156)⟩ ⟨_, g172, ((hx_kf m165 (hx_mem hG0 (by decide)) gA153 g172).trans iD157)⟩ ((hx_kr m165 (hx_mem hG_pk (by decide))).trans gK158) (by rw [show gN150.toInt.toNat = y1 by omega]; exact hz2) (by omega) (by omega) (by omega) (by omega)
        · -- 22
          refine ax_go 2 (y := (24, [some (.ref o), some (.int lv), some (.long vs), none, (u4.map Value.int), (u5.map Value.long), none], [.ref o, .ref o], w1, 0, 0)) rfl trivial ?_
          refine hx_gf (l := 27) rfl rfl rfl g14 e15 ?_
          refine hx_pi (l := 30) (as := [.ref o, .int gq]) rfl rfl (hx_iv (j := 172) (n := 1) (o := o) (r := []) rfl rfl g14 rfl) (hp_X9_codeAt (fz := fz) hF (fun q hq => (by decide +kernel : ∀ q ∈ fb_hv_sumOf, q ∈ fb_hp_X9_codeAt) q (hfz q hq)) (d + 4)) hw10 hf11 ⟨(hx_tr (G := G) (s := 30) (b := 0) hG0 (by decide)), (ck_top_ok (G := G) gq), trivial⟩ (fun y0 y1 y2 h1 h2 => by cases h1; obtain ⟨fs1, g1, e1⟩ := h2; obtain rfl := hx_inj g14 g1; obtain rfl := hx_inji e26 e1; exact ⟨by omega, by omega⟩) (fun w174 z179 hw175 hf176 m177 a180 b181 u182 => ?_)
          rw [u182.1]
          have u183 := u182.2 _ _ _ _ _ _ rfl ⟨_, g14, e23⟩ g6 ⟨_, g14, e26⟩ rfl
          clear u182
          refine hx_k (l := 32) (m := 45) rfl rfl (by decide) (fun z184 h185 => ?_)
          refine hx_pi (l := 35) (as := [.int z184]) rfl rfl rfl (hp_X9_sign (fz := fz) hF (fun q hq => (by decide +kernel : ∀ q ∈ fb_hv_sumOf, q ∈ fb_hp_X9_sign) q (hfz q hq)) (d + 4)) hw10 hf11 ⟨(hx_ti (G := G) (lo := 0) (hi := 255) (by omega) (by omega)), trivial⟩ trivial (fun w186 z191 hw187 hf188 m189 a192 b193 u194 => ?_)
          rw [u194.1]
          have u195 := u194.2 _ _ rfl rfl
          refine hx_ic_ne (l := 38) rfl rfl (fun h196 => ?_) (fun h196 => ?_)
          · -- 103
            have hend := ((gr_sl hgq).resolve_left (fun zz => absurd zz.1 (by omega))).2
            refine ax_go 1 (y := (104, [some (.ref o), some (.int lv), some (.long vs), none, (u4.map Value.int), (u5.map Value.long), none], [.long vs], w1, 0, 0)) rfl trivial ?_
            exact ax_ret rfl rfl trivial ⟨some (.long vs), _, rfl, hw10, hf11, hs12, (ck_ltop_ok (G := G) vs), (fun o1 l1 h1 => by cases h1; exact ⟨gq, by omega, ⟨_, g14, e23, e15, e26, e29, g6⟩⟩)⟩
          · -- 38
            obtain ⟨m1, y1, hm1, hz1, hz2⟩ := ((gr_sl hgq).resolve_right (fun zz => zz.1 (by omega))).2
            have lt1 := gc_lt (c := cf f) (e := e.toInt.toNat) (p := gq.toInt.toNat) (by omega)
            refine ax_go 2 (y := (40, [some (.ref o), some (.int lv), some (.long vs), none, (u4.map Value.int), (u5.map Value.long), none], [.ref o, .ref o], w1, 0, 0)) rfl trivial ?_
            refine hx_gf (l := 43) rfl rfl rfl g14 e15 ?_
            refine hx_pi (l := 46) (as := [.ref o, .int gq]) rfl rfl (hx_iv (j := 172) (n := 1) (o := o) (r := []) rfl rfl g14 rfl) (hp_X9_codeAt (fz := fz) hF (fun q hq => (by decide +kernel : ∀ q ∈ fb_hv_sumOf, q ∈ fb_hp_X9_codeAt) q (hfz q hq)) (d + 4)) hw10 hf11 ⟨(hx_tr (G := G) (s := 30) (b := 0) hG0 (by decide)), (ck_top_ok (G := G) gq), trivial⟩ (fun y0 y1 y2 h1 h2 => by cases h1; obtain ⟨fs1, g1, e1⟩ := h2; obtain rfl := hx_inj g14 g1; obtain rfl := hx_inji e26 e1; exact ⟨by omega, by omega⟩) (fun w197 z202 hw198 hf199 m200 a203 b204 u205 => ?_)
            rw [u205.1]
            have u206 := u205.2 _ _ _ _ _ _ rfl ⟨_, g14, e23⟩ g6 ⟨_, g14, e26⟩ rfl
            clear u205
            refine hx_k (l := 48) (m := 43) rfl rfl (by decide) (fun z207 h208 => ?_)
            refine hx_pi (l := 51) (as := [.int z207]) rfl rfl rfl (hp_X9_sign (fz := fz) hF (fun q hq => (by decide +kernel : ∀ q ∈ fb_hv_sumOf, q ∈ fb_hp_X9_sign) q (hfz q hq)) (d + 4)) hw10 hf11 ⟨(hx_ti (G := G) (lo := 0) (hi := 255) (by omega) (by omega)), trivial⟩ trivial (fun w209 z214 hw210 hf211 m212 a215 b216 u217 => ?_)
            rw [u217.1]
            have u218 := u217.2 _ _ rfl rfl
            refine hx_ic_ne (l := 54) rfl rfl (fun h219 => ?_) (fun h219 => ?_)
            · -- 58
              refine hx_k (l := 59) (m := 0) rfl rfl (by decide) (fun z220 h221 => ?_)
              refine ax_go 3 (y := (63, [some (.ref o), some (.int lv), some (.long vs), none, some (.int z220), (u5.map Value.long), none], [.ref o, .ref o], w1, 0, 0)) rfl trivial ?_
              refine hx_gf (l := 66) rfl rfl rfl g14 e15 ?_
              refine hx_k (l := 67) (m := 1) rfl rfl (by decide) (fun z222 h223 => ?_)
              refine hx_add (l := 68) rfl rfl (fun z224 h225 => ?_)
              replace h225 := h225 (by omega) (by omega)
              refine hx_pf (q := (0, 0, 0, 0, (-2147483648), 2147483647)) (s := 30) (l := 71) (v := .int z224) rfl rfl rfl (by decide) rfl rfl rfl hw10 hG0 g14 trivial (ck_top_ok (G := G) z224) (fun w226 fs227 g228 e229 o230 n231 hw232 n233 => ?_)
              have hs234 := ty_same_tr hs12 (n233 fz (hx_ok hfz (by decide)))
              have hf235 := hFF _ _ (n233 pr_ (by decide)) hf11
              refine ax_go 2 (y := (73, [some (.ref o), some (.int lv), some (.long vs), none, some (.int z220), (u5.map Value.long), none], [.int lv, .ref o], w226, 0, 0)) rfl trivial ?_
              refine hx_pj (l := 76) (as := [.ref o, .int lv]) rfl rfl (hx_iv (j := 176) (n := 1) (o := o) (r := []) rfl rfl g228 rfl) (ihtermOf m1 (by omega) b pk f e io z224 y1 (d + 5) he ⟨by omega, by omega⟩ (by rw [show z224.toInt.toNat = gq.toInt.toNat + 1 by omega]; exact hz1) (by omega)) hw232 hf235 ⟨(hx_tr (G := G) (s := 30) (b := 0) hG0 (by decide)), (hx_ti (G := G) (lo := 0) (hi := 1) (by omega) (by omega)), trivial⟩ (fun o1 l1 h1 => by cases h1; exact ⟨_, g228, ((o230 2 (by decide)).trans e23), e229, ((o230 23 (by decide)).trans e26), ((o230 25 (by decide)).trans e29), ((n231 _ (hx_ne hG_pk hG0 (by decide))).trans g6)⟩) (fun w236 z241 hw237 hf238 m239 a242 b243 u244 => ?_)
              have hs240 := ty_same_tr hs234 m239
              obtain ⟨gN245, hN246, fsN247, gA248, iA249, iB250, iC251, iD252, gK253⟩ := u244 _ _ rfl
              have le254 := gr_le hz1 (by omega)
              refine ax_go 3 (y := (81, [some (.ref o), some (.int lv), some (.long vs), none, some (.int z220), some (.long z241), none], [.int z220, .ref o], w236, 0, 0)) rfl trivial ?_
              refine hx_if_eq (l := 84) rfl rfl (fun h255 => ?_) (fun h255 => by omega)
              refine ax_go 2 (y := (94, [some (.ref o), some (.int lv), some (.long vs), none, some (.int z220), some (.long z241), none], [.long z241, .long vs, .ref o], w236, 0, 0)) rfl trivial ?_
              refine hx_anyl (l := 95) rfl rfl (fun z256 => ?_)
              refine ax_go 1 (y := (96, [some (.ref o), some (.int lv), some (.long vs), none, some (.int z220), some (.long z241), none], [.int lv, .long z256, .ref o], w236, 0, 0)) rfl trivial ?_
              refine hx_cj (l := 99) (as := [.ref o, .long z256, .int lv]) rfl rfl (hx_iv (j := 174) (n := 2) (o := o) (r := []) rfl rfl gA248 rfl) (h_X9_bounded (fz := ([(32, 999), (30, 2), (30, 22), (30, 23), (30, 25)] ++ fz)) hF (hx_app (by decide +kernel) (fun q hq => (by decide +kernel : ∀ q ∈ fb_hv_sumOf, q ∈ fb_X9_bounded) q (hfz q hq))) (d + 4)) hw237 hf238 ⟨(hx_tr (G := G) (s := 30) (b := 0) hG0 (by decide)), (ck_ltop_ok (G := G) z256), (hx_ti (G := G) (lo := 0) (hi := 1) (by omega) (by omega)), trivial⟩ (fun w257 z262 hw258 hf259 m260 => ?_)
              have hs261 := ty_same_tr hs240 (hx_sapp m260)
              obtain ⟨fs266, g267, -, q268⟩ := hx_obj hw258 hG0 (s := 30) rfl (by decide)
              refine ax_go 2 (y := (6, [some (.ref o), some (.int lv), some (.long z262), none, some (.int z220), some (.long z241), none], [], w257, 0, 0)) rfl trivial ?_
              exact ih6 w257 z262 (some z220) (some z241) gN245 m1 hw258 hf259 hs261 ⟨_, g267, ((hx_kf m260 (hx_mem hG0 (by decide)) gA248 g267).trans iB250)⟩ ⟨_, g267, ((hx_kf m260 (hx_mem hG0 (by decide)) gA248 g267).trans iA249)⟩ ⟨_, g267, ((hx_kf m260 (hx_mem hG0 (by decide)) gA248 g267).trans iC251)⟩ ⟨_, g267, ((hx_kf m260 (hx_mem hG0 (by decide)) gA248 g267).trans iD252)⟩ ((hx_kr m260 (hx_mem hG_pk (by decide))).trans gK253) (by rw [show gN245.toInt.toNat = y1 by omega]; exact hz2) (by omega) (by omega) (by omega) (by omega)
            · -- 54
              refine hx_k (l := 55) (m := 1) rfl rfl (by decide) (fun z269 h270 => ?_)
              refine ax_go 4 (y := (63, [some (.ref o), some (.int lv), some (.long vs), none, some (.int z269), (u5.map Value.long), none], [.ref o, .ref o], w1, 0, 0)) rfl trivial ?_
              refine hx_gf (l := 66) rfl rfl rfl g14 e15 ?_
              refine hx_k (l := 67) (m := 1) rfl rfl (by decide) (fun z271 h272 => ?_)
              refine hx_add (l := 68) rfl rfl (fun z273 h274 => ?_)
              replace h274 := h274 (by omega) (by omega)
              refine hx_pf (q := (0, 0, 0, 0, (-2147483648), 2147483647)) (s := 30) (l := 71) (v := .int z273) rfl rfl rfl (by decide) rfl rfl rfl hw10 hG0 g14 trivial (ck_top_ok (G := G) z273) (fun w275 fs276 g277 e278 o279 n280 hw281 n282 => ?_)
              have hs283 := ty_same_tr hs12 (n282 fz (hx_ok hfz (by decide)))
              have hf284 := hFF _ _ (n282 pr_ (by decide)) hf11
              refine ax_go 2 (y := (73, [some (.ref o), some (.int lv), some (.long vs), none, some (.int z269), (u5.map Value.long), none], [.int lv, .ref o], w275, 0, 0)) rfl trivial ?_
              refine hx_pj (l := 76) (as := [.ref o, .int lv]) rfl rfl (hx_iv (j := 176) (n := 1) (o := o) (r := []) rfl rfl g277 rfl) (ihtermOf m1 (by omega) b pk f e io z273 y1 (d + 5) he ⟨by omega, by omega⟩ (by rw [show z273.toInt.toNat = gq.toInt.toNat + 1 by omega]; exact hz1) (by omega)) hw281 hf284 ⟨(hx_tr (G := G) (s := 30) (b := 0) hG0 (by decide)), (hx_ti (G := G) (lo := 0) (hi := 1) (by omega) (by omega)), trivial⟩ (fun o1 l1 h1 => by cases h1; exact ⟨_, g277, ((o279 2 (by decide)).trans e23), e278, ((o279 23 (by decide)).trans e26), ((o279 25 (by decide)).trans e29), ((n280 _ (hx_ne hG_pk hG0 (by decide))).trans g6)⟩) (fun w285 z290 hw286 hf287 m288 a291 b292 u293 => ?_)
              have hs289 := ty_same_tr hs283 m288
              obtain ⟨gN294, hN295, fsN296, gA297, iA298, iB299, iC300, iD301, gK302⟩ := u293 _ _ rfl
              have le303 := gr_le hz1 (by omega)
              refine ax_go 3 (y := (81, [some (.ref o), some (.int lv), some (.long vs), none, some (.int z269), some (.long z290), none], [.int z269, .ref o], w285, 0, 0)) rfl trivial ?_
              refine hx_if_eq (l := 84) rfl rfl (fun h304 => by omega) (fun h304 => ?_)
              refine ax_go 2 (y := (87, [some (.ref o), some (.int lv), some (.long vs), none, some (.int z269), some (.long z290), none], [.long z290, .long vs, .ref o], w285, 0, 0)) rfl trivial ?_
              refine hx_anyl (l := 88) rfl rfl (fun z305 => ?_)
              refine ax_go 2 (y := (96, [some (.ref o), some (.int lv), some (.long vs), none, some (.int z269), some (.long z290), none], [.int lv, .long z305, .ref o], w285, 0, 0)) rfl trivial ?_
              refine hx_cj (l := 99) (as := [.ref o, .long z305, .int lv]) rfl rfl (hx_iv (j := 174) (n := 2) (o := o) (r := []) rfl rfl gA297 rfl) (h_X9_bounded (fz := ([(32, 999), (30, 2), (30, 22), (30, 23), (30, 25)] ++ fz)) hF (hx_app (by decide +kernel) (fun q hq => (by decide +kernel : ∀ q ∈ fb_hv_sumOf, q ∈ fb_X9_bounded) q (hfz q hq))) (d + 4)) hw286 hf287 ⟨(hx_tr (G := G) (s := 30) (b := 0) hG0 (by decide)), (ck_ltop_ok (G := G) z305), (hx_ti (G := G) (lo := 0) (hi := 1) (by omega) (by omega)), trivial⟩ (fun w306 z311 hw307 hf308 m309 => ?_)
              have hs310 := ty_same_tr hs289 (hx_sapp m309)
              obtain ⟨fs315, g316, -, q317⟩ := hx_obj hw307 hG0 (s := 30) rfl (by decide)
              refine ax_go 2 (y := (6, [some (.ref o), some (.int lv), some (.long z311), none, some (.int z269), some (.long z290), none], [], w306, 0, 0)) rfl trivial ?_
              exact ih6 w306 z311 (some z269) (some z290) gN294 m1 hw307 hf308 hs310 ⟨_, g316, ((hx_kf m309 (hx_mem hG0 (by decide)) gA297 g316).trans iB299)⟩ ⟨_, g316, ((hx_kf m309 (hx_mem hG0 (by decide)) gA297 g316).trans iA298)⟩ ⟨_, g316, ((hx_kf m309 (hx_mem hG0 (by decide)) gA297 g316).trans iC300)⟩ ⟨_, g316, ((hx_kf m309 (hx_mem hG0 (by decide)) gA297 g316).trans iD301)⟩ ((hx_kr m309 (hx_mem hG_pk (by decide))).trans gK302) (by rw [show gN294.toInt.toNat = y1 by omega]; exact hz2) (by omega) (by omega) (by omega) (by omega)
    change ab_wp ro (ab_Ev ro ab_codes (d + 5)) 9 false (some .long) ab_k_X9_sumOf (fun o_1 => ∃ v w1, o_1 = (v, w1, 0, 0) ∧ ty_w sp_ G w1 ∧ (F9 G F) w1 ∧ ty_same G fz w w1 ∧ ck_res G (some (1, (-9223372036854775808), 9223372036854775807)) v ∧ (evR pk f q e io) ([.ref o, .int lv] : List Value) w v w1) (0, [some (.ref o), some (.int lv), none, none, none, none, none], [], w, 0, 0)
    refine ax_go 2 (y := (2, [some (.ref o), some (.int lv), none, none, none, none, none], [.int lv, .ref o], w, 0, 0)) rfl trivial ?_
    obtain ⟨m0, y0, hm0, hy1, hy2⟩ := gr_sum hgr
    refine hx_pj (l := 5) (as := [.ref o, .int lv]) rfl rfl (hx_iv (j := 176) (n := 1) (o := o) (r := []) rfl rfl g0 rfl) (ihtermOf m0 (by omega) b pk f e io g y0 (d + 5) he ⟨by omega, by omega⟩ hy1 (by omega)) hw hf ⟨(hx_tr (G := G) (s := 30) (b := 0) hG0 (by decide)), (hx_ti (G := G) (lo := 0) (hi := 1) (by omega) (by omega)), trivial⟩ (fun o1 l1 h1 => by cases h1; exact ⟨_, g0, i2, i22, i23, i25, gk0⟩) (fun w318 z323 hw319 hf320 m321 a324 b325 u326 => ?_)
    have hs322 := ty_same_tr (ty_same_rf w) m321
    obtain ⟨gN327, hN328, fsN329, gA330, iA331, iB332, iC333, iD334, gK335⟩ := u326 _ _ rfl
    have le336 := gr_le hy1 (by omega)
    refine ax_go 1 (y := (6, [some (.ref o), some (.int lv), some (.long z323), none, none, none, none], [], w318, 0, 0)) rfl trivial ?_
    exact ct6 _ w318 z323 none none gN327 m0 hw319 hf320 hs322 ⟨_, gA330, iB332⟩ ⟨_, gA330, iA331⟩ ⟨_, gA330, iC333⟩ ⟨_, gA330, iD334⟩ gK335 (by rw [show gN327.toInt.toNat = y0 by omega]; exact hy2) (by omega) (by omega) (by omega) (Nat.lt_succ_self _)
