/-! the evaluator's contracts, by how far a walk of the grammar goes -/
def EvK (ro : ab_R) (G : Nat → Nat) (F : ab_W → Prop) (fz : List (Nat × Nat)) (n K j off : Nat) (r : Option ty_A) : Prop := ∀ (b pk : Nat) (f : Nat → Int32) (e io g : Int32) (q D : Nat), (0 ≤ e.toInt ∧ e.toInt ≤ 2800) → (0 ≤ g.toInt ∧ g.toInt ≤ e.toInt) → gr (cf f) e.toInt.toNat (decide (io.toInt ≠ 0)) n b K g.toInt.toNat = some q → 6 * b + off ≤ D → hx_ct ro sp_ G (F9 G F) fz (ab_Ev ro ab_codes D) j [(2, 30, 0), (0, 0, 1)] r (evP pk f g e io) (evR pk f q e io)
theorem ev_leaf {io : Int32} {v : Int} (h : gr_leaf (decide (io.toInt ≠ 0)) v = true) : (io.toInt = 0 → v = 50 ∨ (9 ≤ v ∧ v ≤ 16)) ∧ (io.toInt ≠ 0 → v = 50 ∨ (14 ≤ v ∧ v ≤ 20)) := by
  unfold gr_leaf at h
  by_cases z : io.toInt = 0
  · have hd : decide (io.toInt ≠ 0) = false := decide_eq_false (fun y => y z)
    rw [hd] at h
    simp only [cond_false, Bool.or_eq_true, Bool.and_eq_true, decide_eq_true_eq] at h
    exact ⟨fun _ => h, fun y => absurd z y⟩
  · have hd : decide (io.toInt ≠ 0) = true := decide_eq_true z
    rw [hd] at h
    simp only [cond_true, Bool.or_eq_true, Bool.and_eq_true, decide_eq_true_eq] at h
    exact ⟨fun y => absurd y z, fun _ => h⟩
theorem ev_case {io : Int32} {A B C D : Prop} (h : (decide (io.toInt ≠ 0) = true ∧ A ∧ B ∧ C) ∨ (¬ (decide (io.toInt ≠ 0) = true ∧ A) ∧ D)) : (io.toInt ≠ 0 ∧ A ∧ B ∧ C) ∨ (¬ (io.toInt ≠ 0 ∧ A) ∧ D) := by
  simp only [decide_eq_true_eq] at h
  exact h
def fb_hv_sumOf : List (Nat × Nat) := [(8, 3), (8, 5), (19, 999), (32, 999), (33, 999), (34, 999), (35, 999), (44, 999), (45, 999), (1, 0), (18, 999), (2, 11), (2, 14), (1, 15), (54, 11), (4, 2), (7, 9), (30, 13), (30, 34), (30, 2), (30, 23), (30, 25), (46, 999), (47, 999), (30, 35), (30, 36), (7, 0), (24, 999), (37, 999), (30, 4), (30, 5), (30, 6), (30, 8), (30, 9), (30, 10), (30, 11), (30, 14), (30, 15), (30, 16), (30, 17), (30, 18), (30, 19), (30, 20), (30, 21), (39, 999), (40, 999), (41, 999), (30, 30), (30, 42), (30, 43), (30, 44), (1, 1), (1, 3), (1, 10), (1, 13), (8, 0), (30, 49), (2, 15), (8, 1)]
set_option maxHeartbeats 8000000 in
theorem hv_sumOf {ro : ab_R} {G : Nat → Nat} {fz : List (Nat × Nat)} {F : ab_W → Prop} (hF : ∀ w w', smt G w w' → F w → F w') (d : Nat) {pk : Nat} {f : Nat → Int32} {g e io : Int32} {n b q : Nat} (he : 0 ≤ e.toInt ∧ e.toInt ≤ 2800) (hg : 0 ≤ g.toInt ∧ g.toInt ≤ e.toInt) (hgr : gr (cf f) e.toInt.toNat (decide (io.toInt ≠ 0)) n b 2 g.toInt.toNat = some q) (hD : 6 * b + 8 ≤ d + 6) (ihtermOf : ∀ m, m < n → EvK ro G F fz m 1 176 7 (some (1, (-9223372036854775808), 9223372036854775807))) (hfz : ∀ q ∈ fz, q ∈ fb_hv_sumOf) : hx_ct ro sp_ G (F9 G F) fz (ab_Ev ro ab_codes (d + 6)) 175 [(2, 30, 0), (0, 0, 1)] (some (1, (-9223372036854775808), 9223372036854775807)) (evP pk f g e io) (evR pk f q e io) := by
  have hFF := F9_same hF
  refine hx_hand (d := d + 5) (by decide) (fun as w hw hf has hP => ?_)
  match as, has with
  | [v0, v1], ⟨h0, h1, _⟩ =>
    obtain ⟨o, rfl, _, hG0⟩ := ty_refn h0 rfl rfl
    replace hG0 : G o = 30 := hG0
    obtain ⟨lv, rfl, hl1, hh1⟩ := ty_int h1 rfl
    replace hl1 : (0 : Int) ≤ lv.toInt := hl1
    replace hh1 : lv.toInt ≤ 1 := hh1
    refine ⟨rfl, ?_⟩
    obtain ⟨fs0, g0, i2, i22, i23, i25, gk0⟩ := hP o lv rfl
    have hG_pk : G pk = 32 := hx_sref hw g0 hG0 i2
    have ct6 : ∀ (nq : Nat) (w1 : ab_W) (vs : Int64) (u4 : Option Int32) (u5 : Option Int64) (gq : Int32) (mq : Nat), ty_w sp_ G w1 → (F9 G F) w1 → ty_same G fz w w1 → (hx_has w1 o 9 22 (.int gq)) → (hx_has w1 o 9 2 (.ref pk)) → (hx_has w1 o 9 23 (.int e)) → (hx_has w1 o 9 25 (.int io)) → (w1[pk]? = some (.inl (0, 5721, .inl f))) → (gr (cf f) e.toInt.toNat (decide (io.toInt ≠ 0)) mq b 4 gq.toInt.toNat = some q) → (mq < n) → (0 ≤ gq.toInt) → (gq.toInt ≤ e.toInt) → ((mq : Int)).toNat < nq → ab_wp ro (ab_Ev ro ab_codes (d + 5)) 9 false (some .long) ab_k_X9_sumOf (fun o_1 => ∃ v w1, o_1 = (v, w1, 0, 0) ∧ ty_w sp_ G w1 ∧ (F9 G F) w1 ∧ ty_same G fz w w1 ∧ ck_res G (some (1, (-9223372036854775808), 9223372036854775807)) v ∧ (evR pk f q e io) ([.ref o, .int lv] : List Value) w v w1) (6, [some (.ref o), some (.int lv), some (.long vs), none, (u4.map Value.int), (u5.map Value.long), none], [], w1, 0, 0) := by
      intro nq
      induction nq with
      | zero => intro w1 vs u4 u5 gq mq hw10 hf11 hs12 hh2 hh3 hh4 hh5 g6 hgq i7 i8 i9 hm; exact absurd hm (Nat.not_lt_zero _)
      | succ nq ih6 =>
        intro w1 vs u4 u5 gq mq hw10 hf11 hs12 hh2 hh3 hh4 hh5 g6 hgq i7 i8 i9 hm6
        obtain ⟨fs13, g14, e15⟩ := hh2
        have q16 := hx_oq hw10 g14 hG0 (s := 30) rfl
        obtain ⟨x17, e18, a19, b20⟩ := hx_fi (k := 22) (lo := (-2147483648)) (hi := 2147483647) q16 rfl
        obtain rfl : gq = x17 := hx_inji e15 e18
        obtain ⟨fs21, g22, e23⟩ := hh3
        obtain rfl : fs13 = fs21 := hx_inj g14 g22
        obtain ⟨fs24, g25, e26⟩ := hh4
        obtain rfl : fs13 = fs24 := hx_inj g14 g25
        obtain ⟨fs27, g28, e29⟩ := hh5
        obtain rfl : fs13 = fs27 := hx_inj g14 g28
        refine ax_go 2 (y := (8, [some (.ref o), some (.int lv), some (.long vs), none, (u4.map Value.int), (u5.map Value.long), none], [.ref o, .ref o], w1, 0, 0)) rfl trivial ?_
        refine hx_gf (l := 11) rfl rfl rfl g14 e15 ?_
        refine hx_pi (l := 14) (as := [.ref o, .int gq]) rfl rfl (hx_iv (j := 172) (n := 1) (o := o) (r := []) rfl rfl g14 rfl) (hp_X9_codeAt (fz := fz) hF (fun q hq => (by decide +kernel : ∀ q ∈ fb_hv_sumOf, q ∈ fb_hp_X9_codeAt) q (hfz q hq)) (d + 4)) hw10 hf11 ⟨(hx_tr (G := G) (s := 30) (b := 0) hG0 (by decide)), (ck_top_ok (G := G) gq), trivial⟩ (fun y0 y1 y2 h1 h2 => by cases h1; obtain ⟨fs1, g1, e1⟩ := h2; obtain rfl := hx_inj g14 g1; obtain rfl := hx_inji e26 e1; exact ⟨by omega, by omega⟩) (fun w30 z35 hw31 hf32 m33 a36 b37 u38 => ?_)
        rw [u38.1]
        have u39 := u38.2 _ _ _ _ _ _ rfl ⟨_, g14, e23⟩ g6 ⟨_, g14, e26⟩ rfl
        clear u38
        refine hx_k (l := 16) (m := 43) rfl rfl (by decide) (fun z40 h41 => ?_)
        refine hx_pi (l := 19) (as := [.int z40]) rfl rfl rfl (hp_X9_sign (fz := fz) hF (fun q hq => (by decide +kernel : ∀ q ∈ fb_hv_sumOf, q ∈ fb_hp_X9_sign) q (hfz q hq)) (d + 4)) hw10 hf11 ⟨(hx_ti (G := G) (lo := 0) (hi := 255) (by omega) (by omega)), trivial⟩ trivial (fun w42 z47 hw43 hf44 m45 a48 b49 u50 => ?_)
        rw [u50.1]
        have u51 := u50.2 _ _ rfl rfl
        refine hx_ic_eq (l := 22) rfl rfl (fun h52 => ?_) (fun h52 => ?_)
        · -- 38
          obtain ⟨m1, y1, hm1, hz1, hz2⟩ := ((gr_sl hgq).resolve_right (fun zz => zz.1 (by omega))).2
          have lt1 := gc_lt (c := cf f) (e := e.toInt.toNat) (p := gq.toInt.toNat) (by omega)
          refine ax_go 2 (y := (40, [some (.ref o), some (.int lv), some (.long vs), none, (u4.map Value.int), (u5.map Value.long), none], [.ref o, .ref o], w1, 0, 0)) rfl trivial ?_
          refine hx_gf (l := 43) rfl rfl rfl g14 e15 ?_
          refine hx_pi (l := 46) (as := [.ref o, .int gq]) rfl rfl (hx_iv (j := 172) (n := 1) (o := o) (r := []) rfl rfl g14 rfl) (hp_X9_codeAt (fz := fz) hF (fun q hq => (by decide +kernel : ∀ q ∈ fb_hv_sumOf, q ∈ fb_hp_X9_codeAt) q (hfz q hq)) (d + 4)) hw10 hf11 ⟨(hx_tr (G := G) (s := 30) (b := 0) hG0 (by decide)), (ck_top_ok (G := G) gq), trivial⟩ (fun y0 y1 y2 h1 h2 => by cases h1; obtain ⟨fs1, g1, e1⟩ := h2; obtain rfl := hx_inj g14 g1; obtain rfl := hx_inji e26 e1; exact ⟨by omega, by omega⟩) (fun w53 z58 hw54 hf55 m56 a59 b60 u61 => ?_)
          rw [u61.1]
          have u62 := u61.2 _ _ _ _ _ _ rfl ⟨_, g14, e23⟩ g6 ⟨_, g14, e26⟩ rfl
          clear u61
          refine hx_k (l := 48) (m := 43) rfl rfl (by decide) (fun z63 h64 => ?_)
          refine hx_pi (l := 51) (as := [.int z63]) rfl rfl rfl (hp_X9_sign (fz := fz) hF (fun q hq => (by decide +kernel : ∀ q ∈ fb_hv_sumOf, q ∈ fb_hp_X9_sign) q (hfz q hq)) (d + 4)) hw10 hf11 ⟨(hx_ti (G := G) (lo := 0) (hi := 255) (by omega) (by omega)), trivial⟩ trivial (fun w65 z70 hw66 hf67 m68 a71 b72 u73 => ?_)
          rw [u73.1]
          have u74 := u73.2 _ _ rfl rfl
          refine hx_ic_ne (l := 54) rfl rfl (fun h75 => ?_) (fun h75 => ?_)
          · -- 58
            refine hx_k (l := 59) (m := 0) rfl rfl (by decide) (fun z76 h77 => ?_)
            refine ax_go 3 (y := (63, [some (.ref o), some (.int lv), some (.long vs), none, some (.int z76), (u5.map Value.long), none], [.ref o, .ref o], w1, 0, 0)) rfl trivial ?_
            refine hx_gf (l := 66) rfl rfl rfl g14 e15 ?_
            refine hx_k (l := 67) (m := 1) rfl rfl (by decide) (fun z78 h79 => ?_)
            refine hx_add (l := 68) rfl rfl (fun z80 h81 => ?_)
            replace h81 := h81 (by omega) (by omega)
            refine hx_pf (q := (0, 0, 0, 0, (-2147483648), 2147483647)) (s := 30) (l := 71) (v := .int z80) rfl rfl rfl (by decide) rfl rfl rfl hw10 hG0 g14 trivial (ck_top_ok (G := G) z80) (fun w82 fs83 g84 e85 o86 n87 hw88 n89 => ?_)
            have hs90 := ty_same_tr hs12 (n89 fz (hx_ok hfz (by decide)))
            have hf91 := hFF _ _ (n89 pr_ (by decide)) hf11
            refine ax_go 2 (y := (73, [some (.ref o), some (.int lv), some (.long vs), none, some (.int z76), (u5.map Value.long), none], [.int lv, .ref o], w82, 0, 0)) rfl trivial ?_
            refine hx_pj (l := 76) (as := [.ref o, .int lv]) rfl rfl (hx_iv (j := 176) (n := 1) (o := o) (r := []) rfl rfl g84 rfl) (ihtermOf m1 (by omega) b pk f e io z80 y1 (d + 5) he ⟨by omega, by omega⟩ (by rw [show z80.toInt.toNat = gq.toInt.toNat + 1 by omega]; exact hz1) (by omega)) hw88 hf91 ⟨(hx_tr (G := G) (s := 30) (b := 0) hG0 (by decide)), (hx_ti (G := G) (lo := 0) (hi := 1) (by omega) (by omega)), trivial⟩ (fun o1 l1 h1 => by cases h1; exact ⟨_, g84, ((o86 2 (by decide)).trans e23), e85, ((o86 23 (by decide)).trans e26), ((o86 25 (by decide)).trans e29), ((n87 _ (hx_ne hG_pk hG0 (by decide))).trans g6)⟩) (fun w92 z97 hw93 hf94 m95 a98 b99 u100 => ?_)
            have hs96 := ty_same_tr hs90 m95
            obtain ⟨gN101, hN102, fsN103, gA104, iA105, iB106, iC107, iD108, gK109⟩ := u100 _ _ rfl
            have le110 := gr_le hz1 (by omega)
            refine ax_go 3 (y := (81, [some (.ref o), some (.int lv), some (.long vs), none, some (.int z76), some (.long z97), none], [.int z76, .ref o], w92, 0, 0)) rfl trivial ?_
            refine hx_if_eq (l := 84) rfl rfl (fun h111 => ?_) (fun h111 => by omega)
            refine ax_go 2 (y := (94, [some (.ref o), some (.int lv), some (.long vs), none, some (.int z76), some (.long z97), none], [.long z97, .long vs, .ref o], w92, 0, 0)) rfl trivial ?_
            refine hx_anyl (l := 95) rfl rfl (fun z112 => ?_)
            refine ax_go 1 (y := (96, [some (.ref o), some (.int lv), some (.long vs), none, some (.int z76), some (.long z97), none], [.int lv, .long z112, .ref o], w92, 0, 0)) rfl trivial ?_
            refine hx_cj (l := 99) (as := [.ref o, .long z112, .int lv]) rfl rfl (hx_iv (j := 174) (n := 2) (o := o) (r := []) rfl rfl gA104 rfl) (h_X9_bounded (fz := ([(32, 999), (30, 2), (30, 22), (30, 23), (30, 25)] ++ fz)) hF (hx_app (by decide +kernel) (fun q hq => (by decide +kernel : ∀ q ∈ fb_hv_sumOf, q ∈ fb_X9_bounded) q (hfz q hq))) (d + 4)) hw93 hf94 ⟨(hx_tr (G := G) (s := 30) (b := 0) hG0 (by decide)), (ck_ltop_ok (G := G) z112), (hx_ti (G := G) (lo := 0) (hi := 1) (by omega) (by omega)), trivial⟩ (fun w113 z118 hw114 hf115 m116 => ?_)
            have hs117 := ty_same_tr hs96 (hx_sapp m116)
            obtain ⟨fs122, g123, -, q124⟩ := hx_obj hw114 hG0 (s := 30) rfl (by decide)
            refine ax_go 2 (y := (6, [some (.ref o), some (.int lv), some (.long z118), none, some (.int z76), some (.long z97), none], [], w113, 0, 0)) rfl trivial ?_
            exact ih6 w113 z118 (some z76) (some z97) gN101 m1 hw114 hf115 hs117 ⟨_, g123, ((hx_kf m116 (hx_mem hG0 (by decide)) gA104 g123).trans iB106)⟩ ⟨_, g123, ((hx_kf m116 (hx_mem hG0 (by decide)) gA104 g123).trans iA105)⟩ ⟨_, g123, ((hx_kf m116 (hx_mem hG0 (by decide)) gA104 g123).trans iC107)⟩ ⟨_, g123, ((hx_kf m116 (hx_mem hG0 (by decide)) gA104 g123).trans iD108)⟩ ((hx_kr m116 (hx_mem hG_pk (by decide))).trans gK109) (by rw [show gN101.toInt.toNat = y1 by omega]; exact hz2) (by omega) (by omega) (by omega) (by omega)
          · -- 54
            refine hx_k (l := 55) (m := 1) rfl rfl (by decide) (fun z125 h126 => ?_)
            refine ax_go 4 (y := (63, [some (.ref o), some (.int lv), some (.long vs), none, some (.int z125), (u5.map Value.long), none], [.ref o, .ref o], w1, 0, 0)) rfl trivial ?_
            refine hx_gf (l := 66) rfl rfl rfl g14 e15 ?_
            refine hx_k (l := 67) (m := 1) rfl rfl (by decide) (fun z127 h128 => ?_)
            refine hx_add (l := 68) rfl rfl (fun z129 h130 => ?_)
            replace h130 := h130 (by omega) (by omega)
            refine hx_pf (q := (0, 0, 0, 0, (-2147483648), 2147483647)) (s := 30) (l := 71) (v := .int z129) rfl rfl rfl (by decide) rfl rfl rfl hw10 hG0 g14 trivial (ck_top_ok (G := G) z129) (fun w131 fs132 g133 e134 o135 n136 hw137 n138 => ?_)
            have hs139 := ty_same_tr hs12 (n138 fz (hx_ok hfz (by decide)))
            have hf140 := hFF _ _ (n138 pr_ (by decide)) hf11
            refine ax_go 2 (y := (73, [some (.ref o), some (.int lv), some (.long vs), none, some (.int z125), (u5.map Value.long), none], [.int lv, .ref o], w131, 0, 0)) rfl trivial ?_
            refine hx_pj (l := 76) (as := [.ref o, .int lv]) rfl rfl (hx_iv (j := 176) (n := 1) (o := o) (r := []) rfl rfl g133 rfl) (ihtermOf m1 (by omega) b pk f e io z129 y1 (d + 5) he ⟨by omega, by omega⟩ (by rw [show z129.toInt.toNat = gq.toInt.toNat + 1 by omega]; exact hz1) (by omega)) hw137 hf140 ⟨(hx_tr (G := G) (s := 30) (b := 0) hG0 (by decide)), (hx_ti (G := G) (lo := 0) (hi := 1) (by omega) (by omega)), trivial⟩ (fun o1 l1 h1 => by cases h1; exact ⟨_, g133, ((o135 2 (by decide)).trans e23), e134, ((o135 23 (by decide)).trans e26), ((o135 25 (by decide)).trans e29), ((n136 _ (hx_ne hG_pk hG0 (by decide))).trans g6)⟩) (fun w141 z146 hw142 hf143 m144 a147 b148 u149 => ?_)
            have hs145 := ty_same_tr hs139 m144
            obtain ⟨gN150, hN151, fsN152, gA153, iA154, iB155, iC156, iD157, gK158⟩ := u149 _ _ rfl
            have le159 := gr_le hz1 (by omega)
            refine ax_go 3 (y := (81, [some (.ref o), some (.int lv), some (.long vs), none, some (.int z125), some (.long z146), none], [.int z125, .ref o], w141, 0, 0)) rfl trivial ?_
            refine hx_if_eq (l := 84) rfl rfl (fun h160 => by omega) (fun h160 => ?_)
            refine ax_go 2 (y := (87, [some (.ref o), some (.int lv), some (.long vs), none, some (.int z125), some (.long z146), none], [.long z146, .long vs, .ref o], w141, 0, 0)) rfl trivial ?_
            refine hx_anyl (l := 88) rfl rfl (fun z161 => ?_)
            refine ax_go 2 (y := (96, [some (.ref o), some (.int lv), some (.long vs), none, some (.int z125), some (.long z146), none], [.int lv, .long z161, .ref o], w141, 0, 0)) rfl trivial ?_
            refine hx_cj (l := 99) (as := [.ref o, .long z161, .int lv]) rfl rfl (hx_iv (j := 174) (n := 2) (o := o) (r := []) rfl rfl gA153 rfl) (h_X9_bounded (fz := ([(32, 999), (30, 2), (30, 22), (30, 23), (30, 25)] ++ fz)) hF (hx_app (by decide +kernel) (fun q hq => (by decide +kernel : ∀ q ∈ fb_hv_sumOf, q ∈ fb_X9_bounded) q (hfz q hq))) (d + 4)) hw142 hf143 ⟨(hx_tr (G := G) (s := 30) (b := 0) hG0 (by decide)), (ck_ltop_ok (G := G) z161), (hx_ti (G := G) (lo := 0) (hi := 1) (by omega) (by omega)), trivial⟩ (fun w162 z167 hw163 hf164 m165 => ?_)
            have hs166 := ty_same_tr hs145 (hx_sapp m165)
            obtain ⟨fs171, g172, -, q173⟩ := hx_obj hw163 hG0 (s := 30) rfl (by decide)
            refine ax_go 2 (y := (6, [some (.ref o), some (.int lv), some (.long z167), none, some (.int z125), some (.long z146), none], [], w162, 0, 0)) rfl trivial ?_
            exact ih6 w162 z167 (some z125) (some z146) gN150 m1 hw163 hf164 hs166 ⟨_, g172, ((hx_kf m165 (hx_mem hG0 (by decide)) gA153 g172).trans iB155)⟩ ⟨_, g172, ((hx_kf m165 (hx_mem hG0 (by decide)) gA153 g172).trans iA154)⟩ ⟨_, g172, ((hx_kf m165 (hx_mem hG0 (by decide)) gA153 g172).trans iC156)⟩ ⟨_, g172, ((hx_kf m165 (hx_mem hG0 (by decide)) gA153 g172).trans iD157)⟩ ((hx_kr m165 (hx_mem hG_pk (by decide))).trans gK158) (by rw [show gN150.toInt.toNat = y1 by omega]; exact hz2) (by omega) (by omega) (by omega) (by omega)
        · -- 22
          refine ax_go 2 (y := (24, [some (.ref o), some (.int lv), some (.long vs), none, (u4.map Value.int), (u5.map Value.long), none], [.ref o, .ref o], w1, 0, 0)) rfl trivial ?_
          refine hx_gf (l := 27) rfl rfl rfl g14 e15 ?_
          refine hx_pi (l := 30) (as := [.ref o, .int gq]) rfl rfl (hx_iv (j := 172) (n := 1) (o := o) (r := []) rfl rfl g14 rfl) (hp_X9_codeAt (fz := fz) hF (fun q hq => (by decide +kernel : ∀ q ∈ fb_hv_sumOf, q ∈ fb_hp_X9_codeAt) q (hfz q hq)) (d + 4)) hw10 hf11 ⟨(hx_tr (G := G) (s := 30) (b := 0) hG0 (by decide)), (ck_top_ok (G := G) gq), trivial⟩ (fun y0 y1 y2 h1 h2 => by cases h1; obtain ⟨fs1, g1, e1⟩ := h2; obtain rfl := hx_inj g14 g1; obtain rfl := hx_inji e26 e1; exact ⟨by omega, by omega⟩) (fun w174 z179 hw175 hf176 m177 a180 b181 u182 => ?_)
          rw [u182.1]
          have u183 := u182.2 _ _ _ _ _ _ rfl ⟨_, g14, e23⟩ g6 ⟨_, g14, e26⟩ rfl
          clear u182
          refine hx_k (l := 32) (m := 45) rfl rfl (by decide) (fun z184 h185 => ?_)
          refine hx_pi (l := 35) (as := [.int z184]) rfl rfl rfl (hp_X9_sign (fz := fz) hF (fun q hq => (by decide +kernel : ∀ q ∈ fb_hv_sumOf, q ∈ fb_hp_X9_sign) q (hfz q hq)) (d + 4)) hw10 hf11 ⟨(hx_ti (G := G) (lo := 0) (hi := 255) (by omega) (by omega)), trivial⟩ trivial (fun w186 z191 hw187 hf188 m189 a192 b193 u194 => ?_)
          rw [u194.1]
          have u195 := u194.2 _ _ rfl rfl
          refine hx_ic_ne (l := 38) rfl rfl (fun h196 => ?_) (fun h196 => ?_)
          · -- 103
            have hend := ((gr_sl hgq).resolve_left (fun zz => absurd zz.1 (by omega))).2
            refine ax_go 1 (y := (104, [some (.ref o), some (.int lv), some (.long vs), none, (u4.map Value.int), (u5.map Value.long), none], [.long vs], w1, 0, 0)) rfl trivial ?_
            exact ax_ret rfl rfl trivial ⟨some (.long vs), _, rfl, hw10, hf11, hs12, (ck_ltop_ok (G := G) vs), (fun o1 l1 h1 => by cases h1; exact ⟨gq, by omega, ⟨_, g14, e23, e15, e26, e29, g6⟩⟩)⟩
          · -- 38
            obtain ⟨m1, y1, hm1, hz1, hz2⟩ := ((gr_sl hgq).resolve_right (fun zz => zz.1 (by omega))).2
            have lt1 := gc_lt (c := cf f) (e := e.toInt.toNat) (p := gq.toInt.toNat) (by omega)
            refine ax_go 2 (y := (40, [some (.ref o), some (.int lv), some (.long vs), none, (u4.map Value.int), (u5.map Value.long), none], [.ref o, .ref o], w1, 0, 0)) rfl trivial ?_
            refine hx_gf (l := 43) rfl rfl rfl g14 e15 ?_
            refine hx_pi (l := 46) (as := [.ref o, .int gq]) rfl rfl (hx_iv (j := 172) (n := 1) (o := o) (r := []) rfl rfl g14 rfl) (hp_X9_codeAt (fz := fz) hF (fun q hq => (by decide +kernel : ∀ q ∈ fb_hv_sumOf, q ∈ fb_hp_X9_codeAt) q (hfz q hq)) (d + 4)) hw10 hf11 ⟨(hx_tr (G := G) (s := 30) (b := 0) hG0 (by decide)), (ck_top_ok (G := G) gq), trivial⟩ (fun y0 y1 y2 h1 h2 => by cases h1; obtain ⟨fs1, g1, e1⟩ := h2; obtain rfl := hx_inj g14 g1; obtain rfl := hx_inji e26 e1; exact ⟨by omega, by omega⟩) (fun w197 z202 hw198 hf199 m200 a203 b204 u205 => ?_)
            rw [u205.1]
            have u206 := u205.2 _ _ _ _ _ _ rfl ⟨_, g14, e23⟩ g6 ⟨_, g14, e26⟩ rfl
            clear u205
            refine hx_k (l := 48) (m := 43) rfl rfl (by decide) (fun z207 h208 => ?_)
            refine hx_pi (l := 51) (as := [.int z207]) rfl rfl rfl (hp_X9_sign (fz := fz) hF (fun q hq => (by decide +kernel : ∀ q ∈ fb_hv_sumOf, q ∈ fb_hp_X9_sign) q (hfz q hq)) (d + 4)) hw10 hf11 ⟨(hx_ti (G := G) (lo := 0) (hi := 255) (by omega) (by omega)), trivial⟩ trivial (fun w209 z214 hw210 hf211 m212 a215 b216 u217 => ?_)
            rw [u217.1]
            have u218 := u217.2 _ _ rfl rfl
            refine hx_ic_ne (l := 54) rfl rfl (fun h219 => ?_) (fun h219 => ?_)
            · -- 58
              refine hx_k (l := 59) (m := 0) rfl rfl (by decide) (fun z220 h221 => ?_)
              refine ax_go 3 (y := (63, [some (.ref o), some (.int lv), some (.long vs), none, some (.int z220), (u5.map Value.long), none], [.ref o, .ref o], w1, 0, 0)) rfl trivial ?_
              refine hx_gf (l := 66) rfl rfl rfl g14 e15 ?_
              refine hx_k (l := 67) (m := 1) rfl rfl (by decide) (fun z222 h223 => ?_)
              refine hx_add (l := 68) rfl rfl (fun z224 h225 => ?_)
              replace h225 := h225 (by omega) (by omega)
              refine hx_pf (q := (0, 0, 0, 0, (-2147483648), 2147483647)) (s := 30) (l := 71) (v := .int z224) rfl rfl rfl (by decide) rfl rfl rfl hw10 hG0 g14 trivial (ck_top_ok (G := G) z224) (fun w226 fs227 g228 e229 o230 n231 hw232 n233 => ?_)
              have hs234 := ty_same_tr hs12 (n233 fz (hx_ok hfz (by decide)))
              have hf235 := hFF _ _ (n233 pr_ (by decide)) hf11
              refine ax_go 2 (y := (73, [some (.ref o), some (.int lv), some (.long vs), none, some (.int z220), (u5.map Value.long), none], [.int lv, .ref o], w226, 0, 0)) rfl trivial ?_
              refine hx_pj (l := 76) (as := [.ref o, .int lv]) rfl rfl (hx_iv (j := 176) (n := 1) (o := o) (r := []) rfl rfl g228 rfl) (ihtermOf m1 (by omega) b pk f e io z224 y1 (d + 5) he ⟨by omega, by omega⟩ (by rw [show z224.toInt.toNat = gq.toInt.toNat + 1 by omega]; exact hz1) (by omega)) hw232 hf235 ⟨(hx_tr (G := G) (s := 30) (b := 0) hG0 (by decide)), (hx_ti (G := G) (lo := 0) (hi := 1) (by omega) (by omega)), trivial⟩ (fun o1 l1 h1 => by cases h1; exact ⟨_, g228, ((o230 2 (by decide)).trans e23), e229, ((o230 23 (by decide)).trans e26), ((o230 25 (by decide)).trans e29), ((n231 _ (hx_ne hG_pk hG0 (by decide))).trans g6)⟩) (fun w236 z241 hw237 hf238 m239 a242 b243 u244 => ?_)
              have hs240 := ty_same_tr hs234 m239
              obtain ⟨gN245, hN246, fsN247, gA248, iA249, iB250, iC251, iD252, gK253⟩ := u244 _ _ rfl
              have le254 := gr_le hz1 (by omega)
              refine ax_go 3 (y := (81, [some (.ref o), some (.int lv), some (.long vs), none, some (.int z220), some (.long z241), none], [.int z220, .ref o], w236, 0, 0)) rfl trivial ?_
              refine hx_if_eq (l := 84) rfl rfl (fun h255 => ?_) (fun h255 => by omega)
              refine ax_go 2 (y := (94, [some (.ref o), some (.int lv), some (.long vs), none, some (.int z220), some (.long z241), none], [.long z241, .long vs, .ref o], w236, 0, 0)) rfl trivial ?_
              refine hx_anyl (l := 95) rfl rfl (fun z256 => ?_)
              refine ax_go 1 (y := (96, [some (.ref o), some (.int lv), some (.long vs), none, some (.int z220), some (.long z241), none], [.int lv, .long z256, .ref o], w236, 0, 0)) rfl trivial ?_
              refine hx_cj (l := 99) (as := [.ref o, .long z256, .int lv]) rfl rfl (hx_iv (j := 174) (n := 2) (o := o) (r := []) rfl rfl gA248 rfl) (h_X9_bounded (fz := ([(32, 999), (30, 2), (30, 22), (30, 23), (30, 25)] ++ fz)) hF (hx_app (by decide +kernel) (fun q hq => (by decide +kernel : ∀ q ∈ fb_hv_sumOf, q ∈ fb_X9_bounded) q (hfz q hq))) (d + 4)) hw237 hf238 ⟨(hx_tr (G := G) (s := 30) (b := 0) hG0 (by decide)), (ck_ltop_ok (G := G) z256), (hx_ti (G := G) (lo := 0) (hi := 1) (by omega) (by omega)), trivial⟩ (fun w257 z262 hw258 hf259 m260 => ?_)
              have hs261 := ty_same_tr hs240 (hx_sapp m260)
              obtain ⟨fs266, g267, -, q268⟩ := hx_obj hw258 hG0 (s := 30) rfl (by decide)
              refine ax_go 2 (y := (6, [some (.ref o), some (.int lv), some (.long z262), none, some (.int z220), some (.long z241), none], [], w257, 0, 0)) rfl trivial ?_
              exact ih6 w257 z262 (some z220) (some z241) gN245 m1 hw258 hf259 hs261 ⟨_, g267, ((hx_kf m260 (hx_mem hG0 (by decide)) gA248 g267).trans iB250)⟩ ⟨_, g267, ((hx_kf m260 (hx_mem hG0 (by decide)) gA248 g267).trans iA249)⟩ ⟨_, g267, ((hx_kf m260 (hx_mem hG0 (by decide)) gA248 g267).trans iC251)⟩ ⟨_, g267, ((hx_kf m260 (hx_mem hG0 (by decide)) gA248 g267).trans iD252)⟩ ((hx_kr m260 (hx_mem hG_pk (by decide))).trans gK253) (by rw [show gN245.toInt.toNat = y1 by omega]; exact hz2) (by omega) (by omega) (by omega) (by omega)
            · -- 54
              refine hx_k (l := 55) (m := 1) rfl rfl (by decide) (fun z269 h270 => ?_)
              refine ax_go 4 (y := (63, [some (.ref o), some (.int lv), some (.long vs), none, some (.int z269), (u5.map Value.long), none], [.ref o, .ref o], w1, 0, 0)) rfl trivial ?_
              refine hx_gf (l := 66) rfl rfl rfl g14 e15 ?_
              refine hx_k (l := 67) (m := 1) rfl rfl (by decide) (fun z271 h272 => ?_)
              refine hx_add (l := 68) rfl rfl (fun z273 h274 => ?_)
              replace h274 := h274 (by omega) (by omega)
              refine hx_pf (q := (0, 0, 0, 0, (-2147483648), 2147483647)) (s := 30) (l := 71) (v := .int z273) rfl rfl rfl (by decide) rfl rfl rfl hw10 hG0 g14 trivial (ck_top_ok (G := G) z273) (fun w275 fs276 g277 e278 o279 n280 hw281 n282 => ?_)
              have hs283 := ty_same_tr hs12 (n282 fz (hx_ok hfz (by decide)))
              have hf284 := hFF _ _ (n282 pr_ (by decide)) hf11
              refine ax_go 2 (y := (73, [some (.ref o), some (.int lv), some (.long vs), none, some (.int z269), (u5.map Value.long), none], [.int lv, .ref o], w275, 0, 0)) rfl trivial ?_
              refine hx_pj (l := 76) (as := [.ref o, .int lv]) rfl rfl (hx_iv (j := 176) (n := 1) (o := o) (r := []) rfl rfl g277 rfl) (ihtermOf m1 (by omega) b pk f e io z273 y1 (d + 5) he ⟨by omega, by omega⟩ (by rw [show z273.toInt.toNat = gq.toInt.toNat + 1 by omega]; exact hz1) (by omega)) hw281 hf284 ⟨(hx_tr (G := G) (s := 30) (b := 0) hG0 (by decide)), (hx_ti (G := G) (lo := 0) (hi := 1) (by omega) (by omega)), trivial⟩ (fun o1 l1 h1 => by cases h1; exact ⟨_, g277, ((o279 2 (by decide)).trans e23), e278, ((o279 23 (by decide)).trans e26), ((o279 25 (by decide)).trans e29), ((n280 _ (hx_ne hG_pk hG0 (by decide))).trans g6)⟩) (fun w285 z290 hw286 hf287 m288 a291 b292 u293 => ?_)
              have hs289 := ty_same_tr hs283 m288
              obtain ⟨gN294, hN295, fsN296, gA297, iA298, iB299, iC300, iD301, gK302⟩ := u293 _ _ rfl
              have le303 := gr_le hz1 (by omega)
              refine ax_go 3 (y := (81, [some (.ref o), some (.int lv), some (.long vs), none, some (.int z269), some (.long z290), none], [.int z269, .ref o], w285, 0, 0)) rfl trivial ?_
              refine hx_if_eq (l := 84) rfl rfl (fun h304 => by omega) (fun h304 => ?_)
              refine ax_go 2 (y := (87, [some (.ref o), some (.int lv), some (.long vs), none, some (.int z269), some (.long z290), none], [.long z290, .long vs, .ref o], w285, 0, 0)) rfl trivial ?_
              refine hx_anyl (l := 88) rfl rfl (fun z305 => ?_)
              refine ax_go 2 (y := (96, [some (.ref o), some (.int lv), some (.long vs), none, some (.int z269), some (.long z290), none], [.int lv, .long z305, .ref o], w285, 0, 0)) rfl trivial ?_
              refine hx_cj (l := 99) (as := [.ref o, .long z305, .int lv]) rfl rfl (hx_iv (j := 174) (n := 2) (o := o) (r := []) rfl rfl gA297 rfl) (h_X9_bounded (fz := ([(32, 999), (30, 2), (30, 22), (30, 23), (30, 25)] ++ fz)) hF (hx_app (by decide +kernel) (fun q hq => (by decide +kernel : ∀ q ∈ fb_hv_sumOf, q ∈ fb_X9_bounded) q (hfz q hq))) (d + 4)) hw286 hf287 ⟨(hx_tr (G := G) (s := 30) (b := 0) hG0 (by decide)), (ck_ltop_ok (G := G) z305), (hx_ti (G := G) (lo := 0) (hi := 1) (by omega) (by omega)), trivial⟩ (fun w306 z311 hw307 hf308 m309 => ?_)
              have hs310 := ty_same_tr hs289 (hx_sapp m309)
              obtain ⟨fs315, g316, -, q317⟩ := hx_obj hw307 hG0 (s := 30) rfl (by decide)
              refine ax_go 2 (y := (6, [some (.ref o), some (.int lv), some (.long z311), none, some (.int z269), some (.long z290), none], [], w306, 0, 0)) rfl trivial ?_
              exact ih6 w306 z311 (some z269) (some z290) gN294 m1 hw307 hf308 hs310 ⟨_, g316, ((hx_kf m309 (hx_mem hG0 (by decide)) gA297 g316).trans iB299)⟩ ⟨_, g316, ((hx_kf m309 (hx_mem hG0 (by decide)) gA297 g316).trans iA298)⟩ ⟨_, g316, ((hx_kf m309 (hx_mem hG0 (by decide)) gA297 g316).trans iC300)⟩ ⟨_, g316, ((hx_kf m309 (hx_mem hG0 (by decide)) gA297 g316).trans iD301)⟩ ((hx_kr m309 (hx_mem hG_pk (by decide))).trans gK302) (by rw [show gN294.toInt.toNat = y1 by omega]; exact hz2) (by omega) (by omega) (by omega) (by omega)
    change ab_wp ro (ab_Ev ro ab_codes (d + 5)) 9 false (some .long) ab_k_X9_sumOf (fun o_1 => ∃ v w1, o_1 = (v, w1, 0, 0) ∧ ty_w sp_ G w1 ∧ (F9 G F) w1 ∧ ty_same G fz w w1 ∧ ck_res G (some (1, (-9223372036854775808), 9223372036854775807)) v ∧ (evR pk f q e io) ([.ref o, .int lv] : List Value) w v w1) (0, [some (.ref o), some (.int lv), none, none, none, none, none], [], w, 0, 0)
    refine ax_go 2 (y := (2, [some (.ref o), some (.int lv), none, none, none, none, none], [.int lv, .ref o], w, 0, 0)) rfl trivial ?_
    obtain ⟨m0, y0, hm0, hy1, hy2⟩ := gr_sum hgr
    refine hx_pj (l := 5) (as := [.ref o, .int lv]) rfl rfl (hx_iv (j := 176) (n := 1) (o := o) (r := []) rfl rfl g0 rfl) (ihtermOf m0 (by omega) b pk f e io g y0 (d + 5) he ⟨by omega, by omega⟩ hy1 (by omega)) hw hf ⟨(hx_tr (G := G) (s := 30) (b := 0) hG0 (by decide)), (hx_ti (G := G) (lo := 0) (hi := 1) (by omega) (by omega)), trivial⟩ (fun o1 l1 h1 => by cases h1; exact ⟨_, g0, i2, i22, i23, i25, gk0⟩) (fun w318 z323 hw319 hf320 m321 a324 b325 u326 => ?_)
    have hs322 := ty_same_tr (ty_same_rf w) m321
    obtain ⟨gN327, hN328, fsN329, gA330, iA331, iB332, iC333, iD334, gK335⟩ := u326 _ _ rfl
    have le336 := gr_le hy1 (by omega)
    refine ax_go 1 (y := (6, [some (.ref o), some (.int lv), some (.long z323), none, none, none, none], [], w318, 0, 0)) rfl trivial ?_
    exact ct6 _ w318 z323 none none gN327 m0 hw319 hf320 hs322 ⟨_, gA330, iB332⟩ ⟨_, gA330, iA331⟩ ⟨_, gA330, iC333⟩ ⟨_, gA330, iD334⟩ gK335 (by rw [show gN327.toInt.toNat = y0 by omega]; exact hy2) (by omega) (by omega) (by omega) (Nat.lt_succ_self _)
def fb_hv_termOf : List (Nat × Nat) := [(8, 3), (8, 5), (19, 999), (32, 999), (33, 999), (34, 999), (35, 999), (44, 999), (45, 999), (1, 0), (18, 999), (2, 11), (2, 14), (1, 15), (54, 11), (4, 2), (7, 9), (30, 13), (30, 34), (30, 2), (30, 23), (30, 25), (46, 999), (47, 999), (30, 35), (30, 36), (7, 0), (24, 999), (37, 999), (30, 4), (30, 5), (30, 6), (30, 8), (30, 9), (30, 10), (30, 11), (30, 14), (30, 15), (30, 16), (30, 17), (30, 18), (30, 19), (30, 20), (30, 21), (39, 999), (40, 999), (41, 999), (30, 30), (30, 42), (30, 43), (30, 44), (1, 1), (1, 3), (1, 10), (1, 13), (8, 0), (30, 49), (2, 15), (8, 1)]
set_option maxHeartbeats 8000000 in
theorem hv_termOf {ro : ab_R} {G : Nat → Nat} {fz : List (Nat × Nat)} {F : ab_W → Prop} (hF : ∀ w w', smt G w w' → F w → F w') (d : Nat) {pk : Nat} {f : Nat → Int32} {g e io : Int32} {n b q : Nat} (he : 0 ≤ e.toInt ∧ e.toInt ≤ 2800) (hg : 0 ≤ g.toInt ∧ g.toInt ≤ e.toInt) (hgr : gr (cf f) e.toInt.toNat (decide (io.toInt ≠ 0)) n b 1 g.toInt.toNat = some q) (hD : 6 * b + 7 ≤ d + 6) (ihpartOf : ∀ m, m < n → EvK ro G F fz m 0 177 6 (some (1, (-9223372036854775808), 9223372036854775807))) (hfz : ∀ q ∈ fz, q ∈ fb_hv_termOf) : hx_ct ro sp_ G (F9 G F) fz (ab_Ev ro ab_codes (d + 6)) 176 [(2, 30, 0), (0, 0, 1)] (some (1, (-9223372036854775808), 9223372036854775807)) (evP pk f g e io) (evR pk f q e io) := by
  have hFF := F9_same hF
  refine hx_hand (d := d + 5) (by decide) (fun as w hw hf has hP => ?_)
  match as, has with
  | [v0, v1], ⟨h0, h1, _⟩ =>
    obtain ⟨o, rfl, _, hG0⟩ := ty_refn h0 rfl rfl
    replace hG0 : G o = 30 := hG0
    obtain ⟨lv, rfl, hl1, hh1⟩ := ty_int h1 rfl
    replace hl1 : (0 : Int) ≤ lv.toInt := hl1
    replace hh1 : lv.toInt ≤ 1 := hh1
    refine ⟨rfl, ?_⟩
    obtain ⟨fs0, g0, i2, i22, i23, i25, gk0⟩ := hP o lv rfl
    have hG_pk : G pk = 32 := hx_sref hw g0 hG0 i2
    have ct6 : ∀ (nq : Nat) (w1 : ab_W) (vs : Int64) (u4 : Option Int32) (u5 : Option Int64) (gq : Int32) (mq : Nat), ty_w sp_ G w1 → (F9 G F) w1 → ty_same G fz w w1 → (hx_has w1 o 9 22 (.int gq)) → (hx_has w1 o 9 2 (.ref pk)) → (hx_has w1 o 9 23 (.int e)) → (hx_has w1 o 9 25 (.int io)) → (w1[pk]? = some (.inl (0, 5721, .inl f))) → (gr (cf f) e.toInt.toNat (decide (io.toInt ≠ 0)) mq b 3 gq.toInt.toNat = some q) → (mq < n) → (0 ≤ gq.toInt) → (gq.toInt ≤ e.toInt) → ((mq : Int)).toNat < nq → ab_wp ro (ab_Ev ro ab_codes (d + 5)) 9 false (some .long) ab_k_X9_termOf (fun o_1 => ∃ v w1, o_1 = (v, w1, 0, 0) ∧ ty_w sp_ G w1 ∧ (F9 G F) w1 ∧ ty_same G fz w w1 ∧ ck_res G (some (1, (-9223372036854775808), 9223372036854775807)) v ∧ (evR pk f q e io) ([.ref o, .int lv] : List Value) w v w1) (6, [some (.ref o), some (.int lv), some (.long vs), none, (u4.map Value.int), (u5.map Value.long), none], [], w1, 0, 0) := by
      intro nq
      induction nq with
      | zero => intro w1 vs u4 u5 gq mq hw10 hf11 hs12 hh2 hh3 hh4 hh5 g6 hgq i7 i8 i9 hm; exact absurd hm (Nat.not_lt_zero _)
      | succ nq ih6 =>
        intro w1 vs u4 u5 gq mq hw10 hf11 hs12 hh2 hh3 hh4 hh5 g6 hgq i7 i8 i9 hm6
        obtain ⟨fs13, g14, e15⟩ := hh2
        have q16 := hx_oq hw10 g14 hG0 (s := 30) rfl
        obtain ⟨x17, e18, a19, b20⟩ := hx_fi (k := 22) (lo := (-2147483648)) (hi := 2147483647) q16 rfl
        obtain rfl : gq = x17 := hx_inji e15 e18
        obtain ⟨fs21, g22, e23⟩ := hh3
        obtain rfl : fs13 = fs21 := hx_inj g14 g22
        obtain ⟨fs24, g25, e26⟩ := hh4
        obtain rfl : fs13 = fs24 := hx_inj g14 g25
        obtain ⟨fs27, g28, e29⟩ := hh5
        obtain rfl : fs13 = fs27 := hx_inj g14 g28
        refine ax_go 2 (y := (8, [some (.ref o), some (.int lv), some (.long vs), none, (u4.map Value.int), (u5.map Value.long), none], [.ref o, .ref o], w1, 0, 0)) rfl trivial ?_
        refine hx_gf (l := 11) rfl rfl rfl g14 e15 ?_
        refine hx_pi (l := 14) (as := [.ref o, .int gq]) rfl rfl (hx_iv (j := 172) (n := 1) (o := o) (r := []) rfl rfl g14 rfl) (hp_X9_codeAt (fz := fz) hF (fun q hq => (by decide +kernel : ∀ q ∈ fb_hv_termOf, q ∈ fb_hp_X9_codeAt) q (hfz q hq)) (d + 4)) hw10 hf11 ⟨(hx_tr (G := G) (s := 30) (b := 0) hG0 (by decide)), (ck_top_ok (G := G) gq), trivial⟩ (fun y0 y1 y2 h1 h2 => by cases h1; obtain ⟨fs1, g1, e1⟩ := h2; obtain rfl := hx_inj g14 g1; obtain rfl := hx_inji e26 e1; exact ⟨by omega, by omega⟩) (fun w30 z35 hw31 hf32 m33 a36 b37 u38 => ?_)
        rw [u38.1]
        have u39 := u38.2 _ _ _ _ _ _ rfl ⟨_, g14, e23⟩ g6 ⟨_, g14, e26⟩ rfl
        clear u38
        refine hx_k (l := 16) (m := 42) rfl rfl (by decide) (fun z40 h41 => ?_)
        refine hx_pi (l := 19) (as := [.int z40]) rfl rfl rfl (hp_X9_sign (fz := fz) hF (fun q hq => (by decide +kernel : ∀ q ∈ fb_hv_termOf, q ∈ fb_hp_X9_sign) q (hfz q hq)) (d + 4)) hw10 hf11 ⟨(hx_ti (G := G) (lo := 0) (hi := 255) (by omega) (by omega)), trivial⟩ trivial (fun w42 z47 hw43 hf44 m45 a48 b49 u50 => ?_)
        rw [u50.1]
        have u51 := u50.2 _ _ rfl rfl
        refine hx_ic_eq (l := 22) rfl rfl (fun h52 => ?_) (fun h52 => ?_)
        · -- 54
          obtain ⟨m1, y1, hm1, hz1, hz2⟩ := ((gr_tl hgq).resolve_right (fun zz => zz.1 (by omega))).2
          have lt1 := gc_lt (c := cf f) (e := e.toInt.toNat) (p := gq.toInt.toNat) (by omega)
          refine ax_go 2 (y := (56, [some (.ref o), some (.int lv), some (.long vs), none, (u4.map Value.int), (u5.map Value.long), none], [.ref o, .ref o], w1, 0, 0)) rfl trivial ?_
          refine hx_gf (l := 59) rfl rfl rfl g14 e15 ?_
          refine hx_pi (l := 62) (as := [.ref o, .int gq]) rfl rfl (hx_iv (j := 172) (n := 1) (o := o) (r := []) rfl rfl g14 rfl) (hp_X9_codeAt (fz := fz) hF (fun q hq => (by decide +kernel : ∀ q ∈ fb_hv_termOf, q ∈ fb_hp_X9_codeAt) q (hfz q hq)) (d + 4)) hw10 hf11 ⟨(hx_tr (G := G) (s := 30) (b := 0) hG0 (by decide)), (ck_top_ok (G := G) gq), trivial⟩ (fun y0 y1 y2 h1 h2 => by cases h1; obtain ⟨fs1, g1, e1⟩ := h2; obtain rfl := hx_inj g14 g1; obtain rfl := hx_inji e26 e1; exact ⟨by omega, by omega⟩) (fun w53 z58 hw54 hf55 m56 a59 b60 u61 => ?_)
          rw [u61.1]
          have u62 := u61.2 _ _ _ _ _ _ rfl ⟨_, g14, e23⟩ g6 ⟨_, g14, e26⟩ rfl
          clear u61
          refine ax_go 3 (y := (66, [some (.ref o), some (.int lv), some (.long vs), none, some (.int z58), (u5.map Value.long), none], [.ref o, .ref o], w1, 0, 0)) rfl trivial ?_
          refine hx_gf (l := 69) rfl rfl rfl g14 e15 ?_
          refine hx_k (l := 70) (m := 1) rfl rfl (by decide) (fun z63 h64 => ?_)
          refine hx_add (l := 71) rfl rfl (fun z65 h66 => ?_)
          replace h66 := h66 (by omega) (by omega)
          refine hx_pf (q := (0, 0, 0, 0, (-2147483648), 2147483647)) (s := 30) (l := 74) (v := .int z65) rfl rfl rfl (by decide) rfl rfl rfl hw10 hG0 g14 trivial (ck_top_ok (G := G) z65) (fun w67 fs68 g69 e70 o71 n72 hw73 n74 => ?_)
          have hs75 := ty_same_tr hs12 (n74 fz (hx_ok hfz (by decide)))
          have hf76 := hFF _ _ (n74 pr_ (by decide)) hf11
          refine ax_go 2 (y := (76, [some (.ref o), some (.int lv), some (.long vs), none, some (.int z58), (u5.map Value.long), none], [.int lv, .ref o], w67, 0, 0)) rfl trivial ?_
          refine hx_pj (l := 79) (as := [.ref o, .int lv]) rfl rfl (hx_iv (j := 177) (n := 1) (o := o) (r := []) rfl rfl g69 rfl) (ihpartOf m1 (by omega) b pk f e io z65 y1 (d + 5) he ⟨by omega, by omega⟩ (by rw [show z65.toInt.toNat = gq.toInt.toNat + 1 by omega]; exact hz1) (by omega)) hw73 hf76 ⟨(hx_tr (G := G) (s := 30) (b := 0) hG0 (by decide)), (hx_ti (G := G) (lo := 0) (hi := 1) (by omega) (by omega)), trivial⟩ (fun o1 l1 h1 => by cases h1; exact ⟨_, g69, ((o71 2 (by decide)).trans e23), e70, ((o71 23 (by decide)).trans e26), ((o71 25 (by decide)).trans e29), ((n72 _ (hx_ne hG_pk hG0 (by decide))).trans g6)⟩) (fun w77 z82 hw78 hf79 m80 a83 b84 u85 => ?_)
          have hs81 := ty_same_tr hs75 m80
          obtain ⟨gN86, hN87, fsN88, gA89, iA90, iB91, iC92, iD93, gK94⟩ := u85 _ _ rfl
          have le95 := gr_le hz1 (by omega)
          refine ax_go 2 (y := (83, [some (.ref o), some (.int lv), some (.long vs), none, some (.int z58), some (.long z82), none], [.int z58], w77, 0, 0)) rfl trivial ?_
          refine hx_k (l := 85) (m := 42) rfl rfl (by decide) (fun z96 h97 => ?_)
          refine hx_pi (l := 88) (as := [.int z96]) rfl rfl rfl (hp_X9_sign (fz := fz) hF (fun q hq => (by decide +kernel : ∀ q ∈ fb_hv_termOf, q ∈ fb_hp_X9_sign) q (hfz q hq)) (d + 4)) hw78 hf79 ⟨(hx_ti (G := G) (lo := 0) (hi := 255) (by omega) (by omega)), trivial⟩ trivial (fun w98 z103 hw99 hf100 m101 a104 b105 u106 => ?_)
          rw [u106.1]
          have u107 := u106.2 _ _ rfl rfl
          refine hx_ic_eq (l := 91) rfl rfl (fun h108 => ?_) (fun h108 => ?_)
          · -- 121
            refine ax_go 2 (y := (124, [some (.ref o), some (.int lv), some (.long vs), none, some (.int z58), some (.long z82), none], [.int z58, .ref o], w77, 0, 0)) rfl trivial ?_
            refine hx_k (l := 126) (m := 42) rfl rfl (by decide) (fun z109 h110 => ?_)
            refine hx_pi (l := 129) (as := [.int z109]) rfl rfl rfl (hp_X9_sign (fz := fz) hF (fun q hq => (by decide +kernel : ∀ q ∈ fb_hv_termOf, q ∈ fb_hp_X9_sign) q (hfz q hq)) (d + 4)) hw78 hf79 ⟨(hx_ti (G := G) (lo := 0) (hi := 255) (by omega) (by omega)), trivial⟩ trivial (fun w111 z116 hw112 hf113 m114 a117 b118 u119 => ?_)
            rw [u119.1]
            have u120 := u119.2 _ _ rfl rfl
            refine hx_ic_ne (l := 132) rfl rfl (fun h121 => ?_) (fun h121 => ?_)
            · -- 139
              refine ax_go 1 (y := (141, [some (.ref o), some (.int lv), some (.long vs), none, some (.int z58), some (.long z82), none], [.int z58, .ref o], w77, 0, 0)) rfl trivial ?_
              refine hx_k (l := 143) (m := 47) rfl rfl (by decide) (fun z122 h123 => ?_)
              refine hx_pi (l := 146) (as := [.int z122]) rfl rfl rfl (hp_X9_sign (fz := fz) hF (fun q hq => (by decide +kernel : ∀ q ∈ fb_hv_termOf, q ∈ fb_hp_X9_sign) q (hfz q hq)) (d + 4)) hw78 hf79 ⟨(hx_ti (G := G) (lo := 0) (hi := 255) (by omega) (by omega)), trivial⟩ trivial (fun w124 z129 hw125 hf126 m127 a130 b131 u132 => ?_)
              rw [u132.1]
              have u133 := u132.2 _ _ rfl rfl
              refine hx_ic_ne (l := 149) rfl rfl (fun h134 => ?_) (fun h134 => ?_)
              · -- 156
                refine ax_go 2 (y := (159, [some (.ref o), some (.int lv), some (.long vs), none, some (.int z58), some (.long z82), none], [.long z82, .long vs, .ref o], w77, 0, 0)) rfl trivial ?_
                refine hx_ldv (l := 160) rfl (by simp) rfl (by omega) (fun z135 => ?_)
                refine ax_go 1 (y := (161, [some (.ref o), some (.int lv), some (.long vs), none, some (.int z58), some (.long z82), none], [.int lv, .long z135, .ref o], w77, 0, 0)) rfl trivial ?_
                refine hx_cj (l := 164) (as := [.ref o, .long z135, .int lv]) rfl rfl (hx_iv (j := 174) (n := 2) (o := o) (r := []) rfl rfl gA89 rfl) (h_X9_bounded (fz := ([(32, 999), (30, 2), (30, 22), (30, 23), (30, 25)] ++ fz)) hF (hx_app (by decide +kernel) (fun q hq => (by decide +kernel : ∀ q ∈ fb_hv_termOf, q ∈ fb_X9_bounded) q (hfz q hq))) (d + 4)) hw78 hf79 ⟨(hx_tr (G := G) (s := 30) (b := 0) hG0 (by decide)), (ck_ltop_ok (G := G) z135), (hx_ti (G := G) (lo := 0) (hi := 1) (by omega) (by omega)), trivial⟩ (fun w136 z141 hw137 hf138 m139 => ?_)
                have hs140 := ty_same_tr hs81 (hx_sapp m139)
                obtain ⟨fs145, g146, -, q147⟩ := hx_obj hw137 hG0 (s := 30) rfl (by decide)
                refine ax_go 2 (y := (6, [some (.ref o), some (.int lv), some (.long z141), none, some (.int z58), some (.long z82), none], [], w136, 0, 0)) rfl trivial ?_
                exact ih6 w136 z141 (some z58) (some z82) gN86 m1 hw137 hf138 hs140 ⟨_, g146, ((hx_kf m139 (hx_mem hG0 (by decide)) gA89 g146).trans iB91)⟩ ⟨_, g146, ((hx_kf m139 (hx_mem hG0 (by decide)) gA89 g146).trans iA90)⟩ ⟨_, g146, ((hx_kf m139 (hx_mem hG0 (by decide)) gA89 g146).trans iC92)⟩ ⟨_, g146, ((hx_kf m139 (hx_mem hG0 (by decide)) gA89 g146).trans iD93)⟩ ((hx_kr m139 (hx_mem hG_pk (by decide))).trans gK94) (by rw [show gN86.toInt.toNat = y1 by omega]; exact hz2) (by omega) (by omega) (by omega) (by omega)
              · -- 149
                refine ax_go 2 (y := (152, [some (.ref o), some (.int lv), some (.long vs), none, some (.int z58), some (.long z82), none], [.long z82, .long vs, .ref o], w77, 0, 0)) rfl trivial ?_
                refine hx_ldv (l := 153) rfl (by simp) rfl (by omega) (fun z148 => ?_)
                refine ax_go 2 (y := (161, [some (.ref o), some (.int lv), some (.long vs), none, some (.int z58), some (.long z82), none], [.int lv, .long z148, .ref o], w77, 0, 0)) rfl trivial ?_
                refine hx_cj (l := 164) (as := [.ref o, .long z148, .int lv]) rfl rfl (hx_iv (j := 174) (n := 2) (o := o) (r := []) rfl rfl gA89 rfl) (h_X9_bounded (fz := ([(32, 999), (30, 2), (30, 22), (30, 23), (30, 25)] ++ fz)) hF (hx_app (by decide +kernel) (fun q hq => (by decide +kernel : ∀ q ∈ fb_hv_termOf, q ∈ fb_X9_bounded) q (hfz q hq))) (d + 4)) hw78 hf79 ⟨(hx_tr (G := G) (s := 30) (b := 0) hG0 (by decide)), (ck_ltop_ok (G := G) z148), (hx_ti (G := G) (lo := 0) (hi := 1) (by omega) (by omega)), trivial⟩ (fun w149 z154 hw150 hf151 m152 => ?_)
                have hs153 := ty_same_tr hs81 (hx_sapp m152)
                obtain ⟨fs158, g159, -, q160⟩ := hx_obj hw150 hG0 (s := 30) rfl (by decide)
                refine ax_go 2 (y := (6, [some (.ref o), some (.int lv), some (.long z154), none, some (.int z58), some (.long z82), none], [], w149, 0, 0)) rfl trivial ?_
                exact ih6 w149 z154 (some z58) (some z82) gN86 m1 hw150 hf151 hs153 ⟨_, g159, ((hx_kf m152 (hx_mem hG0 (by decide)) gA89 g159).trans iB91)⟩ ⟨_, g159, ((hx_kf m152 (hx_mem hG0 (by decide)) gA89 g159).trans iA90)⟩ ⟨_, g159, ((hx_kf m152 (hx_mem hG0 (by decide)) gA89 g159).trans iC92)⟩ ⟨_, g159, ((hx_kf m152 (hx_mem hG0 (by decide)) gA89 g159).trans iD93)⟩ ((hx_kr m152 (hx_mem hG_pk (by decide))).trans gK94) (by rw [show gN86.toInt.toNat = y1 by omega]; exact hz2) (by omega) (by omega) (by omega) (by omega)
            · -- 132
              refine ax_go 2 (y := (135, [some (.ref o), some (.int lv), some (.long vs), none, some (.int z58), some (.long z82), none], [.long z82, .long vs, .ref o], w77, 0, 0)) rfl trivial ?_
              refine hx_anyl (l := 136) rfl rfl (fun z161 => ?_)
              refine ax_go 2 (y := (161, [some (.ref o), some (.int lv), some (.long vs), none, some (.int z58), some (.long z82), none], [.int lv, .long z161, .ref o], w77, 0, 0)) rfl trivial ?_
              refine hx_cj (l := 164) (as := [.ref o, .long z161, .int lv]) rfl rfl (hx_iv (j := 174) (n := 2) (o := o) (r := []) rfl rfl gA89 rfl) (h_X9_bounded (fz := ([(32, 999), (30, 2), (30, 22), (30, 23), (30, 25)] ++ fz)) hF (hx_app (by decide +kernel) (fun q hq => (by decide +kernel : ∀ q ∈ fb_hv_termOf, q ∈ fb_X9_bounded) q (hfz q hq))) (d + 4)) hw78 hf79 ⟨(hx_tr (G := G) (s := 30) (b := 0) hG0 (by decide)), (ck_ltop_ok (G := G) z161), (hx_ti (G := G) (lo := 0) (hi := 1) (by omega) (by omega)), trivial⟩ (fun w162 z167 hw163 hf164 m165 => ?_)
              have hs166 := ty_same_tr hs81 (hx_sapp m165)
              obtain ⟨fs171, g172, -, q173⟩ := hx_obj hw163 hG0 (s := 30) rfl (by decide)
              refine ax_go 2 (y := (6, [some (.ref o), some (.int lv), some (.long z167), none, some (.int z58), some (.long z82), none], [], w162, 0, 0)) rfl trivial ?_
              exact ih6 w162 z167 (some z58) (some z82) gN86 m1 hw163 hf164 hs166 ⟨_, g172, ((hx_kf m165 (hx_mem hG0 (by decide)) gA89 g172).trans iB91)⟩ ⟨_, g172, ((hx_kf m165 (hx_mem hG0 (by decide)) gA89 g172).trans iA90)⟩ ⟨_, g172, ((hx_kf m165 (hx_mem hG0 (by decide)) gA89 g172).trans iC92)⟩ ⟨_, g172, ((hx_kf m165 (hx_mem hG0 (by decide)) gA89 g172).trans iD93)⟩ ((hx_kr m165 (hx_mem hG_pk (by decide))).trans gK94) (by rw [show gN86.toInt.toNat = y1 by omega]; exact hz2) (by omega) (by omega) (by omega) (by omega)
          · -- 91
            refine ax_go 1 (y := (93, [some (.ref o), some (.int lv), some (.long vs), none, some (.int z58), some (.long z82), none], [.long z82], w77, 0, 0)) rfl trivial ?_
            refine hx_lk (l := 94) (m := 0) rfl rfl (by decide) (fun z174 h175 => ?_)
            refine hx_lcmp (l := 95) rfl rfl (fun z176 h177 => ?_)
            refine hx_if_ne (l := 98) rfl rfl (fun h178 => ?_) (fun h178 => ?_)
            · -- 121
              refine ax_go 2 (y := (124, [some (.ref o), some (.int lv), some (.long vs), none, some (.int z58), some (.long z82), none], [.int z58, .ref o], w77, 0, 0)) rfl trivial ?_
              refine hx_k (l := 126) (m := 42) rfl rfl (by decide) (fun z179 h180 => ?_)
              refine hx_pi (l := 129) (as := [.int z179]) rfl rfl rfl (hp_X9_sign (fz := fz) hF (fun q hq => (by decide +kernel : ∀ q ∈ fb_hv_termOf, q ∈ fb_hp_X9_sign) q (hfz q hq)) (d + 4)) hw78 hf79 ⟨(hx_ti (G := G) (lo := 0) (hi := 255) (by omega) (by omega)), trivial⟩ trivial (fun w181 z186 hw182 hf183 m184 a187 b188 u189 => ?_)
              rw [u189.1]
              have u190 := u189.2 _ _ rfl rfl
              refine hx_ic_ne (l := 132) rfl rfl (fun h191 => ?_) (fun h191 => ?_)
              · -- 139
                refine ax_go 1 (y := (141, [some (.ref o), some (.int lv), some (.long vs), none, some (.int z58), some (.long z82), none], [.int z58, .ref o], w77, 0, 0)) rfl trivial ?_
                refine hx_k (l := 143) (m := 47) rfl rfl (by decide) (fun z192 h193 => ?_)
                refine hx_pi (l := 146) (as := [.int z192]) rfl rfl rfl (hp_X9_sign (fz := fz) hF (fun q hq => (by decide +kernel : ∀ q ∈ fb_hv_termOf, q ∈ fb_hp_X9_sign) q (hfz q hq)) (d + 4)) hw78 hf79 ⟨(hx_ti (G := G) (lo := 0) (hi := 255) (by omega) (by omega)), trivial⟩ trivial (fun w194 z199 hw195 hf196 m197 a200 b201 u202 => ?_)
                rw [u202.1]
                have u203 := u202.2 _ _ rfl rfl
                refine hx_ic_ne (l := 149) rfl rfl (fun h204 => ?_) (fun h204 => ?_)
                · -- 156
                  refine ax_go 2 (y := (159, [some (.ref o), some (.int lv), some (.long vs), none, some (.int z58), some (.long z82), none], [.long z82, .long vs, .ref o], w77, 0, 0)) rfl trivial ?_
                  refine hx_ldv (l := 160) rfl (by simp) rfl (by omega) (fun z205 => ?_)
                  refine ax_go 1 (y := (161, [some (.ref o), some (.int lv), some (.long vs), none, some (.int z58), some (.long z82), none], [.int lv, .long z205, .ref o], w77, 0, 0)) rfl trivial ?_
                  refine hx_cj (l := 164) (as := [.ref o, .long z205, .int lv]) rfl rfl (hx_iv (j := 174) (n := 2) (o := o) (r := []) rfl rfl gA89 rfl) (h_X9_bounded (fz := ([(32, 999), (30, 2), (30, 22), (30, 23), (30, 25)] ++ fz)) hF (hx_app (by decide +kernel) (fun q hq => (by decide +kernel : ∀ q ∈ fb_hv_termOf, q ∈ fb_X9_bounded) q (hfz q hq))) (d + 4)) hw78 hf79 ⟨(hx_tr (G := G) (s := 30) (b := 0) hG0 (by decide)), (ck_ltop_ok (G := G) z205), (hx_ti (G := G) (lo := 0) (hi := 1) (by omega) (by omega)), trivial⟩ (fun w206 z211 hw207 hf208 m209 => ?_)
                  have hs210 := ty_same_tr hs81 (hx_sapp m209)
                  obtain ⟨fs215, g216, -, q217⟩ := hx_obj hw207 hG0 (s := 30) rfl (by decide)
                  refine ax_go 2 (y := (6, [some (.ref o), some (.int lv), some (.long z211), none, some (.int z58), some (.long z82), none], [], w206, 0, 0)) rfl trivial ?_
                  exact ih6 w206 z211 (some z58) (some z82) gN86 m1 hw207 hf208 hs210 ⟨_, g216, ((hx_kf m209 (hx_mem hG0 (by decide)) gA89 g216).trans iB91)⟩ ⟨_, g216, ((hx_kf m209 (hx_mem hG0 (by decide)) gA89 g216).trans iA90)⟩ ⟨_, g216, ((hx_kf m209 (hx_mem hG0 (by decide)) gA89 g216).trans iC92)⟩ ⟨_, g216, ((hx_kf m209 (hx_mem hG0 (by decide)) gA89 g216).trans iD93)⟩ ((hx_kr m209 (hx_mem hG_pk (by decide))).trans gK94) (by rw [show gN86.toInt.toNat = y1 by omega]; exact hz2) (by omega) (by omega) (by omega) (by omega)
                · -- 149
                  refine ax_go 2 (y := (152, [some (.ref o), some (.int lv), some (.long vs), none, some (.int z58), some (.long z82), none], [.long z82, .long vs, .ref o], w77, 0, 0)) rfl trivial ?_
                  refine hx_ldv (l := 153) rfl (by simp) rfl (by omega) (fun z218 => ?_)
                  refine ax_go 2 (y := (161, [some (.ref o), some (.int lv), some (.long vs), none, some (.int z58), some (.long z82), none], [.int lv, .long z218, .ref o], w77, 0, 0)) rfl trivial ?_
                  refine hx_cj (l := 164) (as := [.ref o, .long z218, .int lv]) rfl rfl (hx_iv (j := 174) (n := 2) (o := o) (r := []) rfl rfl gA89 rfl) (h_X9_bounded (fz := ([(32, 999), (30, 2), (30, 22), (30, 23), (30, 25)] ++ fz)) hF (hx_app (by decide +kernel) (fun q hq => (by decide +kernel : ∀ q ∈ fb_hv_termOf, q ∈ fb_X9_bounded) q (hfz q hq))) (d + 4)) hw78 hf79 ⟨(hx_tr (G := G) (s := 30) (b := 0) hG0 (by decide)), (ck_ltop_ok (G := G) z218), (hx_ti (G := G) (lo := 0) (hi := 1) (by omega) (by omega)), trivial⟩ (fun w219 z224 hw220 hf221 m222 => ?_)
                  have hs223 := ty_same_tr hs81 (hx_sapp m222)
                  obtain ⟨fs228, g229, -, q230⟩ := hx_obj hw220 hG0 (s := 30) rfl (by decide)
                  refine ax_go 2 (y := (6, [some (.ref o), some (.int lv), some (.long z224), none, some (.int z58), some (.long z82), none], [], w219, 0, 0)) rfl trivial ?_
                  exact ih6 w219 z224 (some z58) (some z82) gN86 m1 hw220 hf221 hs223 ⟨_, g229, ((hx_kf m222 (hx_mem hG0 (by decide)) gA89 g229).trans iB91)⟩ ⟨_, g229, ((hx_kf m222 (hx_mem hG0 (by decide)) gA89 g229).trans iA90)⟩ ⟨_, g229, ((hx_kf m222 (hx_mem hG0 (by decide)) gA89 g229).trans iC92)⟩ ⟨_, g229, ((hx_kf m222 (hx_mem hG0 (by decide)) gA89 g229).trans iD93)⟩ ((hx_kr m222 (hx_mem hG_pk (by decide))).trans gK94) (by rw [show gN86.toInt.toNat = y1 by omega]; exact hz2) (by omega) (by omega) (by omega) (by omega)
              · -- 132
                refine ax_go 2 (y := (135, [some (.ref o), some (.int lv), some (.long vs), none, some (.int z58), some (.long z82), none], [.long z82, .long vs, .ref o], w77, 0, 0)) rfl trivial ?_
                refine hx_anyl (l := 136) rfl rfl (fun z231 => ?_)
                refine ax_go 2 (y := (161, [some (.ref o), some (.int lv), some (.long vs), none, some (.int z58), some (.long z82), none], [.int lv, .long z231, .ref o], w77, 0, 0)) rfl trivial ?_
                refine hx_cj (l := 164) (as := [.ref o, .long z231, .int lv]) rfl rfl (hx_iv (j := 174) (n := 2) (o := o) (r := []) rfl rfl gA89 rfl) (h_X9_bounded (fz := ([(32, 999), (30, 2), (30, 22), (30, 23), (30, 25)] ++ fz)) hF (hx_app (by decide +kernel) (fun q hq => (by decide +kernel : ∀ q ∈ fb_hv_termOf, q ∈ fb_X9_bounded) q (hfz q hq))) (d + 4)) hw78 hf79 ⟨(hx_tr (G := G) (s := 30) (b := 0) hG0 (by decide)), (ck_ltop_ok (G := G) z231), (hx_ti (G := G) (lo := 0) (hi := 1) (by omega) (by omega)), trivial⟩ (fun w232 z237 hw233 hf234 m235 => ?_)
                have hs236 := ty_same_tr hs81 (hx_sapp m235)
                obtain ⟨fs241, g242, -, q243⟩ := hx_obj hw233 hG0 (s := 30) rfl (by decide)
                refine ax_go 2 (y := (6, [some (.ref o), some (.int lv), some (.long z237), none, some (.int z58), some (.long z82), none], [], w232, 0, 0)) rfl trivial ?_
                exact ih6 w232 z237 (some z58) (some z82) gN86 m1 hw233 hf234 hs236 ⟨_, g242, ((hx_kf m235 (hx_mem hG0 (by decide)) gA89 g242).trans iB91)⟩ ⟨_, g242, ((hx_kf m235 (hx_mem hG0 (by decide)) gA89 g242).trans iA90)⟩ ⟨_, g242, ((hx_kf m235 (hx_mem hG0 (by decide)) gA89 g242).trans iC92)⟩ ⟨_, g242, ((hx_kf m235 (hx_mem hG0 (by decide)) gA89 g242).trans iD93)⟩ ((hx_kr m235 (hx_mem hG_pk (by decide))).trans gK94) (by rw [show gN86.toInt.toNat = y1 by omega]; exact hz2) (by omega) (by omega) (by omega) (by omega)
            · -- 98
              refine ax_go 2 (y := (100, [some (.ref o), some (.int lv), some (.long vs), none, some (.int z58), some (.long z82), none], [.ref o, .ref o], w77, 0, 0)) rfl trivial ?_
              have q244 := hx_oq hw78 gA89 hG0 (s := 30) rfl
              obtain ⟨x245, e246, a247, b248⟩ := hx_fi (k := 24) (lo := 0) (hi := 1) q244 rfl
              refine hx_gf (l := 103) rfl rfl rfl gA89 e246 ?_
              refine hx_if_ne (l := 106) rfl rfl (fun h249 => ?_) (fun h249 => ?_)
              · -- 110
                refine hx_k (l := 111) (m := 1) rfl rfl (by decide) (fun z250 h251 => ?_)
                refine ax_go 1 (y := (115, [some (.ref o), some (.int lv), some (.long vs), none, some (.int z58), some (.long z82), none], [.int z250, .ref o], w77, 0, 0)) rfl trivial ?_
                refine hx_pf (q := (0, 0, 0, 0, 0, 1)) (s := 30) (l := 118) (v := .int z250) rfl rfl rfl (by decide) rfl rfl rfl hw78 hG0 gA89 ⟨hx_01 (by omega) (by omega), trivial⟩ (hx_ti (G := G) (lo := 0) (hi := 1) (by omega) (by omega)) (fun w252 fs253 g254 e255 o256 n257 hw258 n259 => ?_)
                have hs260 := ty_same_tr hs81 (n259 fz (hx_ok hfz (by decide)))
                have hf261 := hFF _ _ (n259 pr_ (by decide)) hf79
                refine hx_lk (l := 119) (m := 1) rfl rfl (by decide) (fun z262 h263 => ?_)
                refine ax_go 3 (y := (124, [some (.ref o), some (.int lv), some (.long vs), none, some (.int z58), some (.long z262), none], [.int z58, .ref o], w252, 0, 0)) rfl trivial ?_
                refine hx_k (l := 126) (m := 42) rfl rfl (by decide) (fun z264 h265 => ?_)
                refine hx_pi (l := 129) (as := [.int z264]) rfl rfl rfl (hp_X9_sign (fz := fz) hF (fun q hq => (by decide +kernel : ∀ q ∈ fb_hv_termOf, q ∈ fb_hp_X9_sign) q (hfz q hq)) (d + 4)) hw258 hf261 ⟨(hx_ti (G := G) (lo := 0) (hi := 255) (by omega) (by omega)), trivial⟩ trivial (fun w266 z271 hw267 hf268 m269 a272 b273 u274 => ?_)
                rw [u274.1]
                have u275 := u274.2 _ _ rfl rfl
                refine hx_ic_ne (l := 132) rfl rfl (fun h276 => ?_) (fun h276 => ?_)
                · -- 139
                  refine ax_go 1 (y := (141, [some (.ref o), some (.int lv), some (.long vs), none, some (.int z58), some (.long z262), none], [.int z58, .ref o], w252, 0, 0)) rfl trivial ?_
                  refine hx_k (l := 143) (m := 47) rfl rfl (by decide) (fun z277 h278 => ?_)
                  refine hx_pi (l := 146) (as := [.int z277]) rfl rfl rfl (hp_X9_sign (fz := fz) hF (fun q hq => (by decide +kernel : ∀ q ∈ fb_hv_termOf, q ∈ fb_hp_X9_sign) q (hfz q hq)) (d + 4)) hw258 hf261 ⟨(hx_ti (G := G) (lo := 0) (hi := 255) (by omega) (by omega)), trivial⟩ trivial (fun w279 z284 hw280 hf281 m282 a285 b286 u287 => ?_)
                  rw [u287.1]
                  have u288 := u287.2 _ _ rfl rfl
                  refine hx_ic_ne (l := 149) rfl rfl (fun h289 => ?_) (fun h289 => ?_)
                  · -- 156
                    refine ax_go 2 (y := (159, [some (.ref o), some (.int lv), some (.long vs), none, some (.int z58), some (.long z262), none], [.long z262, .long vs, .ref o], w252, 0, 0)) rfl trivial ?_
                    refine hx_ldv (l := 160) rfl (by simp) rfl (by omega) (fun z290 => ?_)
                    refine ax_go 1 (y := (161, [some (.ref o), some (.int lv), some (.long vs), none, some (.int z58), some (.long z262), none], [.int lv, .long z290, .ref o], w252, 0, 0)) rfl trivial ?_
                    refine hx_cj (l := 164) (as := [.ref o, .long z290, .int lv]) rfl rfl (hx_iv (j := 174) (n := 2) (o := o) (r := []) rfl rfl g254 rfl) (h_X9_bounded (fz := ([(32, 999), (30, 2), (30, 22), (30, 23), (30, 25)] ++ fz)) hF (hx_app (by decide +kernel) (fun q hq => (by decide +kernel : ∀ q ∈ fb_hv_termOf, q ∈ fb_X9_bounded) q (hfz q hq))) (d + 4)) hw258 hf261 ⟨(hx_tr (G := G) (s := 30) (b := 0) hG0 (by decide)), (ck_ltop_ok (G := G) z290), (hx_ti (G := G) (lo := 0) (hi := 1) (by omega) (by omega)), trivial⟩ (fun w291 z296 hw292 hf293 m294 => ?_)
                    have hs295 := ty_same_tr hs260 (hx_sapp m294)
                    obtain ⟨fs300, g301, -, q302⟩ := hx_obj hw292 hG0 (s := 30) rfl (by decide)
                    refine ax_go 2 (y := (6, [some (.ref o), some (.int lv), some (.long z296), none, some (.int z58), some (.long z262), none], [], w291, 0, 0)) rfl trivial ?_
                    exact ih6 w291 z296 (some z58) (some z262) gN86 m1 hw292 hf293 hs295 ⟨_, g301, ((hx_kf m294 (hx_mem hG0 (by decide)) g254 g301).trans ((o256 22 (by decide)).trans iB91))⟩ ⟨_, g301, ((hx_kf m294 (hx_mem hG0 (by decide)) g254 g301).trans ((o256 2 (by decide)).trans iA90))⟩ ⟨_, g301, ((hx_kf m294 (hx_mem hG0 (by decide)) g254 g301).trans ((o256 23 (by decide)).trans iC92))⟩ ⟨_, g301, ((hx_kf m294 (hx_mem hG0 (by decide)) g254 g301).trans ((o256 25 (by decide)).trans iD93))⟩ ((hx_kr m294 (hx_mem hG_pk (by decide))).trans ((n257 _ (hx_ne hG_pk hG0 (by decide))).trans gK94)) (by rw [show gN86.toInt.toNat = y1 by omega]; exact hz2) (by omega) (by omega) (by omega) (by omega)
                  · -- 149
                    refine ax_go 2 (y := (152, [some (.ref o), some (.int lv), some (.long vs), none, some (.int z58), some (.long z262), none], [.long z262, .long vs, .ref o], w252, 0, 0)) rfl trivial ?_
                    refine hx_ldv (l := 153) rfl (by simp) rfl (by omega) (fun z303 => ?_)
                    refine ax_go 2 (y := (161, [some (.ref o), some (.int lv), some (.long vs), none, some (.int z58), some (.long z262), none], [.int lv, .long z303, .ref o], w252, 0, 0)) rfl trivial ?_
                    refine hx_cj (l := 164) (as := [.ref o, .long z303, .int lv]) rfl rfl (hx_iv (j := 174) (n := 2) (o := o) (r := []) rfl rfl g254 rfl) (h_X9_bounded (fz := ([(32, 999), (30, 2), (30, 22), (30, 23), (30, 25)] ++ fz)) hF (hx_app (by decide +kernel) (fun q hq => (by decide +kernel : ∀ q ∈ fb_hv_termOf, q ∈ fb_X9_bounded) q (hfz q hq))) (d + 4)) hw258 hf261 ⟨(hx_tr (G := G) (s := 30) (b := 0) hG0 (by decide)), (ck_ltop_ok (G := G) z303), (hx_ti (G := G) (lo := 0) (hi := 1) (by omega) (by omega)), trivial⟩ (fun w304 z309 hw305 hf306 m307 => ?_)
                    have hs308 := ty_same_tr hs260 (hx_sapp m307)
                    obtain ⟨fs313, g314, -, q315⟩ := hx_obj hw305 hG0 (s := 30) rfl (by decide)
                    refine ax_go 2 (y := (6, [some (.ref o), some (.int lv), some (.long z309), none, some (.int z58), some (.long z262), none], [], w304, 0, 0)) rfl trivial ?_
                    exact ih6 w304 z309 (some z58) (some z262) gN86 m1 hw305 hf306 hs308 ⟨_, g314, ((hx_kf m307 (hx_mem hG0 (by decide)) g254 g314).trans ((o256 22 (by decide)).trans iB91))⟩ ⟨_, g314, ((hx_kf m307 (hx_mem hG0 (by decide)) g254 g314).trans ((o256 2 (by decide)).trans iA90))⟩ ⟨_, g314, ((hx_kf m307 (hx_mem hG0 (by decide)) g254 g314).trans ((o256 23 (by decide)).trans iC92))⟩ ⟨_, g314, ((hx_kf m307 (hx_mem hG0 (by decide)) g254 g314).trans ((o256 25 (by decide)).trans iD93))⟩ ((hx_kr m307 (hx_mem hG_pk (by decide))).trans ((n257 _ (hx_ne hG_pk hG0 (by decide))).trans gK94)) (by rw [show gN86.toInt.toNat = y1 by omega]; exact hz2) (by omega) (by omega) (by omega) (by omega)
                · -- 132
                  refine ax_go 2 (y := (135, [some (.ref o), some (.int lv), some (.long vs), none, some (.int z58), some (.long z262), none], [.long z262, .long vs, .ref o], w252, 0, 0)) rfl trivial ?_
                  refine hx_anyl (l := 136) rfl rfl (fun z316 => ?_)
                  refine ax_go 2 (y := (161, [some (.ref o), some (.int lv), some (.long vs), none, some (.int z58), some (.long z262), none], [.int lv, .long z316, .ref o], w252, 0, 0)) rfl trivial ?_
                  refine hx_cj (l := 164) (as := [.ref o, .long z316, .int lv]) rfl rfl (hx_iv (j := 174) (n := 2) (o := o) (r := []) rfl rfl g254 rfl) (h_X9_bounded (fz := ([(32, 999), (30, 2), (30, 22), (30, 23), (30, 25)] ++ fz)) hF (hx_app (by decide +kernel) (fun q hq => (by decide +kernel : ∀ q ∈ fb_hv_termOf, q ∈ fb_X9_bounded) q (hfz q hq))) (d + 4)) hw258 hf261 ⟨(hx_tr (G := G) (s := 30) (b := 0) hG0 (by decide)), (ck_ltop_ok (G := G) z316), (hx_ti (G := G) (lo := 0) (hi := 1) (by omega) (by omega)), trivial⟩ (fun w317 z322 hw318 hf319 m320 => ?_)
                  have hs321 := ty_same_tr hs260 (hx_sapp m320)
                  obtain ⟨fs326, g327, -, q328⟩ := hx_obj hw318 hG0 (s := 30) rfl (by decide)
                  refine ax_go 2 (y := (6, [some (.ref o), some (.int lv), some (.long z322), none, some (.int z58), some (.long z262), none], [], w317, 0, 0)) rfl trivial ?_
                  exact ih6 w317 z322 (some z58) (some z262) gN86 m1 hw318 hf319 hs321 ⟨_, g327, ((hx_kf m320 (hx_mem hG0 (by decide)) g254 g327).trans ((o256 22 (by decide)).trans iB91))⟩ ⟨_, g327, ((hx_kf m320 (hx_mem hG0 (by decide)) g254 g327).trans ((o256 2 (by decide)).trans iA90))⟩ ⟨_, g327, ((hx_kf m320 (hx_mem hG0 (by decide)) g254 g327).trans ((o256 23 (by decide)).trans iC92))⟩ ⟨_, g327, ((hx_kf m320 (hx_mem hG0 (by decide)) g254 g327).trans ((o256 25 (by decide)).trans iD93))⟩ ((hx_kr m320 (hx_mem hG_pk (by decide))).trans ((n257 _ (hx_ne hG_pk hG0 (by decide))).trans gK94)) (by rw [show gN86.toInt.toNat = y1 by omega]; exact hz2) (by omega) (by omega) (by omega) (by omega)
              · -- 106
                refine ax_go 1 (y := (107, [some (.ref o), some (.int lv), some (.long vs), none, some (.int z58), some (.long z82), none], [.int lv, .ref o], w77, 0, 0)) rfl trivial ?_
                refine hx_if_eq (l := 110) rfl rfl (fun h329 => ?_) (fun h329 => ?_)
                · -- 114
                  refine hx_k (l := 115) (m := 0) rfl rfl (by decide) (fun z330 h331 => ?_)
                  refine hx_pf (q := (0, 0, 0, 0, 0, 1)) (s := 30) (l := 118) (v := .int z330) rfl rfl rfl (by decide) rfl rfl rfl hw78 hG0 gA89 ⟨hx_01 (by omega) (by omega), trivial⟩ (hx_ti (G := G) (lo := 0) (hi := 1) (by omega) (by omega)) (fun w332 fs333 g334 e335 o336 n337 hw338 n339 => ?_)
                  have hs340 := ty_same_tr hs81 (n339 fz (hx_ok hfz (by decide)))
                  have hf341 := hFF _ _ (n339 pr_ (by decide)) hf79
                  refine hx_lk (l := 119) (m := 1) rfl rfl (by decide) (fun z342 h343 => ?_)
                  refine ax_go 3 (y := (124, [some (.ref o), some (.int lv), some (.long vs), none, some (.int z58), some (.long z342), none], [.int z58, .ref o], w332, 0, 0)) rfl trivial ?_
                  refine hx_k (l := 126) (m := 42) rfl rfl (by decide) (fun z344 h345 => ?_)
                  refine hx_pi (l := 129) (as := [.int z344]) rfl rfl rfl (hp_X9_sign (fz := fz) hF (fun q hq => (by decide +kernel : ∀ q ∈ fb_hv_termOf, q ∈ fb_hp_X9_sign) q (hfz q hq)) (d + 4)) hw338 hf341 ⟨(hx_ti (G := G) (lo := 0) (hi := 255) (by omega) (by omega)), trivial⟩ trivial (fun w346 z351 hw347 hf348 m349 a352 b353 u354 => ?_)
                  rw [u354.1]
                  have u355 := u354.2 _ _ rfl rfl
                  refine hx_ic_ne (l := 132) rfl rfl (fun h356 => ?_) (fun h356 => ?_)
                  · -- 139
                    refine ax_go 1 (y := (141, [some (.ref o), some (.int lv), some (.long vs), none, some (.int z58), some (.long z342), none], [.int z58, .ref o], w332, 0, 0)) rfl trivial ?_
                    refine hx_k (l := 143) (m := 47) rfl rfl (by decide) (fun z357 h358 => ?_)
                    refine hx_pi (l := 146) (as := [.int z357]) rfl rfl rfl (hp_X9_sign (fz := fz) hF (fun q hq => (by decide +kernel : ∀ q ∈ fb_hv_termOf, q ∈ fb_hp_X9_sign) q (hfz q hq)) (d + 4)) hw338 hf341 ⟨(hx_ti (G := G) (lo := 0) (hi := 255) (by omega) (by omega)), trivial⟩ trivial (fun w359 z364 hw360 hf361 m362 a365 b366 u367 => ?_)
                    rw [u367.1]
                    have u368 := u367.2 _ _ rfl rfl
                    refine hx_ic_ne (l := 149) rfl rfl (fun h369 => ?_) (fun h369 => ?_)
                    · -- 156
                      refine ax_go 2 (y := (159, [some (.ref o), some (.int lv), some (.long vs), none, some (.int z58), some (.long z342), none], [.long z342, .long vs, .ref o], w332, 0, 0)) rfl trivial ?_
                      refine hx_ldv (l := 160) rfl (by simp) rfl (by omega) (fun z370 => ?_)
                      refine ax_go 1 (y := (161, [some (.ref o), some (.int lv), some (.long vs), none, some (.int z58), some (.long z342), none], [.int lv, .long z370, .ref o], w332, 0, 0)) rfl trivial ?_
                      refine hx_cj (l := 164) (as := [.ref o, .long z370, .int lv]) rfl rfl (hx_iv (j := 174) (n := 2) (o := o) (r := []) rfl rfl g334 rfl) (h_X9_bounded (fz := ([(32, 999), (30, 2), (30, 22), (30, 23), (30, 25)] ++ fz)) hF (hx_app (by decide +kernel) (fun q hq => (by decide +kernel : ∀ q ∈ fb_hv_termOf, q ∈ fb_X9_bounded) q (hfz q hq))) (d + 4)) hw338 hf341 ⟨(hx_tr (G := G) (s := 30) (b := 0) hG0 (by decide)), (ck_ltop_ok (G := G) z370), (hx_ti (G := G) (lo := 0) (hi := 1) (by omega) (by omega)), trivial⟩ (fun w371 z376 hw372 hf373 m374 => ?_)
                      have hs375 := ty_same_tr hs340 (hx_sapp m374)
                      obtain ⟨fs380, g381, -, q382⟩ := hx_obj hw372 hG0 (s := 30) rfl (by decide)
                      refine ax_go 2 (y := (6, [some (.ref o), some (.int lv), some (.long z376), none, some (.int z58), some (.long z342), none], [], w371, 0, 0)) rfl trivial ?_
                      exact ih6 w371 z376 (some z58) (some z342) gN86 m1 hw372 hf373 hs375 ⟨_, g381, ((hx_kf m374 (hx_mem hG0 (by decide)) g334 g381).trans ((o336 22 (by decide)).trans iB91))⟩ ⟨_, g381, ((hx_kf m374 (hx_mem hG0 (by decide)) g334 g381).trans ((o336 2 (by decide)).trans iA90))⟩ ⟨_, g381, ((hx_kf m374 (hx_mem hG0 (by decide)) g334 g381).trans ((o336 23 (by decide)).trans iC92))⟩ ⟨_, g381, ((hx_kf m374 (hx_mem hG0 (by decide)) g334 g381).trans ((o336 25 (by decide)).trans iD93))⟩ ((hx_kr m374 (hx_mem hG_pk (by decide))).trans ((n337 _ (hx_ne hG_pk hG0 (by decide))).trans gK94)) (by rw [show gN86.toInt.toNat = y1 by omega]; exact hz2) (by omega) (by omega) (by omega) (by omega)
                    · -- 149
                      refine ax_go 2 (y := (152, [some (.ref o), some (.int lv), some (.long vs), none, some (.int z58), some (.long z342), none], [.long z342, .long vs, .ref o], w332, 0, 0)) rfl trivial ?_
                      refine hx_ldv (l := 153) rfl (by simp) rfl (by omega) (fun z383 => ?_)
                      refine ax_go 2 (y := (161, [some (.ref o), some (.int lv), some (.long vs), none, some (.int z58), some (.long z342), none], [.int lv, .long z383, .ref o], w332, 0, 0)) rfl trivial ?_
                      refine hx_cj (l := 164) (as := [.ref o, .long z383, .int lv]) rfl rfl (hx_iv (j := 174) (n := 2) (o := o) (r := []) rfl rfl g334 rfl) (h_X9_bounded (fz := ([(32, 999), (30, 2), (30, 22), (30, 23), (30, 25)] ++ fz)) hF (hx_app (by decide +kernel) (fun q hq => (by decide +kernel : ∀ q ∈ fb_hv_termOf, q ∈ fb_X9_bounded) q (hfz q hq))) (d + 4)) hw338 hf341 ⟨(hx_tr (G := G) (s := 30) (b := 0) hG0 (by decide)), (ck_ltop_ok (G := G) z383), (hx_ti (G := G) (lo := 0) (hi := 1) (by omega) (by omega)), trivial⟩ (fun w384 z389 hw385 hf386 m387 => ?_)
                      have hs388 := ty_same_tr hs340 (hx_sapp m387)
                      obtain ⟨fs393, g394, -, q395⟩ := hx_obj hw385 hG0 (s := 30) rfl (by decide)
                      refine ax_go 2 (y := (6, [some (.ref o), some (.int lv), some (.long z389), none, some (.int z58), some (.long z342), none], [], w384, 0, 0)) rfl trivial ?_
                      exact ih6 w384 z389 (some z58) (some z342) gN86 m1 hw385 hf386 hs388 ⟨_, g394, ((hx_kf m387 (hx_mem hG0 (by decide)) g334 g394).trans ((o336 22 (by decide)).trans iB91))⟩ ⟨_, g394, ((hx_kf m387 (hx_mem hG0 (by decide)) g334 g394).trans ((o336 2 (by decide)).trans iA90))⟩ ⟨_, g394, ((hx_kf m387 (hx_mem hG0 (by decide)) g334 g394).trans ((o336 23 (by decide)).trans iC92))⟩ ⟨_, g394, ((hx_kf m387 (hx_mem hG0 (by decide)) g334 g394).trans ((o336 25 (by decide)).trans iD93))⟩ ((hx_kr m387 (hx_mem hG_pk (by decide))).trans ((n337 _ (hx_ne hG_pk hG0 (by decide))).trans gK94)) (by rw [show gN86.toInt.toNat = y1 by omega]; exact hz2) (by omega) (by omega) (by omega) (by omega)
                  · -- 132
                    refine ax_go 2 (y := (135, [some (.ref o), some (.int lv), some (.long vs), none, some (.int z58), some (.long z342), none], [.long z342, .long vs, .ref o], w332, 0, 0)) rfl trivial ?_
                    refine hx_anyl (l := 136) rfl rfl (fun z396 => ?_)
                    refine ax_go 2 (y := (161, [some (.ref o), some (.int lv), some (.long vs), none, some (.int z58), some (.long z342), none], [.int lv, .long z396, .ref o], w332, 0, 0)) rfl trivial ?_
                    refine hx_cj (l := 164) (as := [.ref o, .long z396, .int lv]) rfl rfl (hx_iv (j := 174) (n := 2) (o := o) (r := []) rfl rfl g334 rfl) (h_X9_bounded (fz := ([(32, 999), (30, 2), (30, 22), (30, 23), (30, 25)] ++ fz)) hF (hx_app (by decide +kernel) (fun q hq => (by decide +kernel : ∀ q ∈ fb_hv_termOf, q ∈ fb_X9_bounded) q (hfz q hq))) (d + 4)) hw338 hf341 ⟨(hx_tr (G := G) (s := 30) (b := 0) hG0 (by decide)), (ck_ltop_ok (G := G) z396), (hx_ti (G := G) (lo := 0) (hi := 1) (by omega) (by omega)), trivial⟩ (fun w397 z402 hw398 hf399 m400 => ?_)
                    have hs401 := ty_same_tr hs340 (hx_sapp m400)
                    obtain ⟨fs406, g407, -, q408⟩ := hx_obj hw398 hG0 (s := 30) rfl (by decide)
                    refine ax_go 2 (y := (6, [some (.ref o), some (.int lv), some (.long z402), none, some (.int z58), some (.long z342), none], [], w397, 0, 0)) rfl trivial ?_
                    exact ih6 w397 z402 (some z58) (some z342) gN86 m1 hw398 hf399 hs401 ⟨_, g407, ((hx_kf m400 (hx_mem hG0 (by decide)) g334 g407).trans ((o336 22 (by decide)).trans iB91))⟩ ⟨_, g407, ((hx_kf m400 (hx_mem hG0 (by decide)) g334 g407).trans ((o336 2 (by decide)).trans iA90))⟩ ⟨_, g407, ((hx_kf m400 (hx_mem hG0 (by decide)) g334 g407).trans ((o336 23 (by decide)).trans iC92))⟩ ⟨_, g407, ((hx_kf m400 (hx_mem hG0 (by decide)) g334 g407).trans ((o336 25 (by decide)).trans iD93))⟩ ((hx_kr m400 (hx_mem hG_pk (by decide))).trans ((n337 _ (hx_ne hG_pk hG0 (by decide))).trans gK94)) (by rw [show gN86.toInt.toNat = y1 by omega]; exact hz2) (by omega) (by omega) (by omega) (by omega)
                · -- 110
                  refine hx_k (l := 111) (m := 1) rfl rfl (by decide) (fun z409 h410 => ?_)
                  refine ax_go 1 (y := (115, [some (.ref o), some (.int lv), some (.long vs), none, some (.int z58), some (.long z82), none], [.int z409, .ref o], w77, 0, 0)) rfl trivial ?_
                  refine hx_pf (q := (0, 0, 0, 0, 0, 1)) (s := 30) (l := 118) (v := .int z409) rfl rfl rfl (by decide) rfl rfl rfl hw78 hG0 gA89 ⟨hx_01 (by omega) (by omega), trivial⟩ (hx_ti (G := G) (lo := 0) (hi := 1) (by omega) (by omega)) (fun w411 fs412 g413 e414 o415 n416 hw417 n418 => ?_)
                  have hs419 := ty_same_tr hs81 (n418 fz (hx_ok hfz (by decide)))
                  have hf420 := hFF _ _ (n418 pr_ (by decide)) hf79
                  refine hx_lk (l := 119) (m := 1) rfl rfl (by decide) (fun z421 h422 => ?_)
                  refine ax_go 3 (y := (124, [some (.ref o), some (.int lv), some (.long vs), none, some (.int z58), some (.long z421), none], [.int z58, .ref o], w411, 0, 0)) rfl trivial ?_
                  refine hx_k (l := 126) (m := 42) rfl rfl (by decide) (fun z423 h424 => ?_)
                  refine hx_pi (l := 129) (as := [.int z423]) rfl rfl rfl (hp_X9_sign (fz := fz) hF (fun q hq => (by decide +kernel : ∀ q ∈ fb_hv_termOf, q ∈ fb_hp_X9_sign) q (hfz q hq)) (d + 4)) hw417 hf420 ⟨(hx_ti (G := G) (lo := 0) (hi := 255) (by omega) (by omega)), trivial⟩ trivial (fun w425 z430 hw426 hf427 m428 a431 b432 u433 => ?_)
                  rw [u433.1]
                  have u434 := u433.2 _ _ rfl rfl
                  refine hx_ic_ne (l := 132) rfl rfl (fun h435 => ?_) (fun h435 => ?_)
                  · -- 139
                    refine ax_go 1 (y := (141, [some (.ref o), some (.int lv), some (.long vs), none, some (.int z58), some (.long z421), none], [.int z58, .ref o], w411, 0, 0)) rfl trivial ?_
                    refine hx_k (l := 143) (m := 47) rfl rfl (by decide) (fun z436 h437 => ?_)
                    refine hx_pi (l := 146) (as := [.int z436]) rfl rfl rfl (hp_X9_sign (fz := fz) hF (fun q hq => (by decide +kernel : ∀ q ∈ fb_hv_termOf, q ∈ fb_hp_X9_sign) q (hfz q hq)) (d + 4)) hw417 hf420 ⟨(hx_ti (G := G) (lo := 0) (hi := 255) (by omega) (by omega)), trivial⟩ trivial (fun w438 z443 hw439 hf440 m441 a444 b445 u446 => ?_)
                    rw [u446.1]
                    have u447 := u446.2 _ _ rfl rfl
                    refine hx_ic_ne (l := 149) rfl rfl (fun h448 => ?_) (fun h448 => ?_)
                    · -- 156
                      refine ax_go 2 (y := (159, [some (.ref o), some (.int lv), some (.long vs), none, some (.int z58), some (.long z421), none], [.long z421, .long vs, .ref o], w411, 0, 0)) rfl trivial ?_
                      refine hx_ldv (l := 160) rfl (by simp) rfl (by omega) (fun z449 => ?_)
                      refine ax_go 1 (y := (161, [some (.ref o), some (.int lv), some (.long vs), none, some (.int z58), some (.long z421), none], [.int lv, .long z449, .ref o], w411, 0, 0)) rfl trivial ?_
                      refine hx_cj (l := 164) (as := [.ref o, .long z449, .int lv]) rfl rfl (hx_iv (j := 174) (n := 2) (o := o) (r := []) rfl rfl g413 rfl) (h_X9_bounded (fz := ([(32, 999), (30, 2), (30, 22), (30, 23), (30, 25)] ++ fz)) hF (hx_app (by decide +kernel) (fun q hq => (by decide +kernel : ∀ q ∈ fb_hv_termOf, q ∈ fb_X9_bounded) q (hfz q hq))) (d + 4)) hw417 hf420 ⟨(hx_tr (G := G) (s := 30) (b := 0) hG0 (by decide)), (ck_ltop_ok (G := G) z449), (hx_ti (G := G) (lo := 0) (hi := 1) (by omega) (by omega)), trivial⟩ (fun w450 z455 hw451 hf452 m453 => ?_)
                      have hs454 := ty_same_tr hs419 (hx_sapp m453)
                      obtain ⟨fs459, g460, -, q461⟩ := hx_obj hw451 hG0 (s := 30) rfl (by decide)
                      refine ax_go 2 (y := (6, [some (.ref o), some (.int lv), some (.long z455), none, some (.int z58), some (.long z421), none], [], w450, 0, 0)) rfl trivial ?_
                      exact ih6 w450 z455 (some z58) (some z421) gN86 m1 hw451 hf452 hs454 ⟨_, g460, ((hx_kf m453 (hx_mem hG0 (by decide)) g413 g460).trans ((o415 22 (by decide)).trans iB91))⟩ ⟨_, g460, ((hx_kf m453 (hx_mem hG0 (by decide)) g413 g460).trans ((o415 2 (by decide)).trans iA90))⟩ ⟨_, g460, ((hx_kf m453 (hx_mem hG0 (by decide)) g413 g460).trans ((o415 23 (by decide)).trans iC92))⟩ ⟨_, g460, ((hx_kf m453 (hx_mem hG0 (by decide)) g413 g460).trans ((o415 25 (by decide)).trans iD93))⟩ ((hx_kr m453 (hx_mem hG_pk (by decide))).trans ((n416 _ (hx_ne hG_pk hG0 (by decide))).trans gK94)) (by rw [show gN86.toInt.toNat = y1 by omega]; exact hz2) (by omega) (by omega) (by omega) (by omega)
                    · -- 149
                      refine ax_go 2 (y := (152, [some (.ref o), some (.int lv), some (.long vs), none, some (.int z58), some (.long z421), none], [.long z421, .long vs, .ref o], w411, 0, 0)) rfl trivial ?_
                      refine hx_ldv (l := 153) rfl (by simp) rfl (by omega) (fun z462 => ?_)
                      refine ax_go 2 (y := (161, [some (.ref o), some (.int lv), some (.long vs), none, some (.int z58), some (.long z421), none], [.int lv, .long z462, .ref o], w411, 0, 0)) rfl trivial ?_
                      refine hx_cj (l := 164) (as := [.ref o, .long z462, .int lv]) rfl rfl (hx_iv (j := 174) (n := 2) (o := o) (r := []) rfl rfl g413 rfl) (h_X9_bounded (fz := ([(32, 999), (30, 2), (30, 22), (30, 23), (30, 25)] ++ fz)) hF (hx_app (by decide +kernel) (fun q hq => (by decide +kernel : ∀ q ∈ fb_hv_termOf, q ∈ fb_X9_bounded) q (hfz q hq))) (d + 4)) hw417 hf420 ⟨(hx_tr (G := G) (s := 30) (b := 0) hG0 (by decide)), (ck_ltop_ok (G := G) z462), (hx_ti (G := G) (lo := 0) (hi := 1) (by omega) (by omega)), trivial⟩ (fun w463 z468 hw464 hf465 m466 => ?_)
                      have hs467 := ty_same_tr hs419 (hx_sapp m466)
                      obtain ⟨fs472, g473, -, q474⟩ := hx_obj hw464 hG0 (s := 30) rfl (by decide)
                      refine ax_go 2 (y := (6, [some (.ref o), some (.int lv), some (.long z468), none, some (.int z58), some (.long z421), none], [], w463, 0, 0)) rfl trivial ?_
                      exact ih6 w463 z468 (some z58) (some z421) gN86 m1 hw464 hf465 hs467 ⟨_, g473, ((hx_kf m466 (hx_mem hG0 (by decide)) g413 g473).trans ((o415 22 (by decide)).trans iB91))⟩ ⟨_, g473, ((hx_kf m466 (hx_mem hG0 (by decide)) g413 g473).trans ((o415 2 (by decide)).trans iA90))⟩ ⟨_, g473, ((hx_kf m466 (hx_mem hG0 (by decide)) g413 g473).trans ((o415 23 (by decide)).trans iC92))⟩ ⟨_, g473, ((hx_kf m466 (hx_mem hG0 (by decide)) g413 g473).trans ((o415 25 (by decide)).trans iD93))⟩ ((hx_kr m466 (hx_mem hG_pk (by decide))).trans ((n416 _ (hx_ne hG_pk hG0 (by decide))).trans gK94)) (by rw [show gN86.toInt.toNat = y1 by omega]; exact hz2) (by omega) (by omega) (by omega) (by omega)
                  · -- 132
                    refine ax_go 2 (y := (135, [some (.ref o), some (.int lv), some (.long vs), none, some (.int z58), some (.long z421), none], [.long z421, .long vs, .ref o], w411, 0, 0)) rfl trivial ?_
                    refine hx_anyl (l := 136) rfl rfl (fun z475 => ?_)
                    refine ax_go 2 (y := (161, [some (.ref o), some (.int lv), some (.long vs), none, some (.int z58), some (.long z421), none], [.int lv, .long z475, .ref o], w411, 0, 0)) rfl trivial ?_
                    refine hx_cj (l := 164) (as := [.ref o, .long z475, .int lv]) rfl rfl (hx_iv (j := 174) (n := 2) (o := o) (r := []) rfl rfl g413 rfl) (h_X9_bounded (fz := ([(32, 999), (30, 2), (30, 22), (30, 23), (30, 25)] ++ fz)) hF (hx_app (by decide +kernel) (fun q hq => (by decide +kernel : ∀ q ∈ fb_hv_termOf, q ∈ fb_X9_bounded) q (hfz q hq))) (d + 4)) hw417 hf420 ⟨(hx_tr (G := G) (s := 30) (b := 0) hG0 (by decide)), (ck_ltop_ok (G := G) z475), (hx_ti (G := G) (lo := 0) (hi := 1) (by omega) (by omega)), trivial⟩ (fun w476 z481 hw477 hf478 m479 => ?_)
                    have hs480 := ty_same_tr hs419 (hx_sapp m479)
                    obtain ⟨fs485, g486, -, q487⟩ := hx_obj hw477 hG0 (s := 30) rfl (by decide)
                    refine ax_go 2 (y := (6, [some (.ref o), some (.int lv), some (.long z481), none, some (.int z58), some (.long z421), none], [], w476, 0, 0)) rfl trivial ?_
                    exact ih6 w476 z481 (some z58) (some z421) gN86 m1 hw477 hf478 hs480 ⟨_, g486, ((hx_kf m479 (hx_mem hG0 (by decide)) g413 g486).trans ((o415 22 (by decide)).trans iB91))⟩ ⟨_, g486, ((hx_kf m479 (hx_mem hG0 (by decide)) g413 g486).trans ((o415 2 (by decide)).trans iA90))⟩ ⟨_, g486, ((hx_kf m479 (hx_mem hG0 (by decide)) g413 g486).trans ((o415 23 (by decide)).trans iC92))⟩ ⟨_, g486, ((hx_kf m479 (hx_mem hG0 (by decide)) g413 g486).trans ((o415 25 (by decide)).trans iD93))⟩ ((hx_kr m479 (hx_mem hG_pk (by decide))).trans ((n416 _ (hx_ne hG_pk hG0 (by decide))).trans gK94)) (by rw [show gN86.toInt.toNat = y1 by omega]; exact hz2) (by omega) (by omega) (by omega) (by omega)
        · -- 22
          refine ax_go 2 (y := (24, [some (.ref o), some (.int lv), some (.long vs), none, (u4.map Value.int), (u5.map Value.long), none], [.ref o, .ref o], w1, 0, 0)) rfl trivial ?_
          refine hx_gf (l := 27) rfl rfl rfl g14 e15 ?_
          refine hx_pi (l := 30) (as := [.ref o, .int gq]) rfl rfl (hx_iv (j := 172) (n := 1) (o := o) (r := []) rfl rfl g14 rfl) (hp_X9_codeAt (fz := fz) hF (fun q hq => (by decide +kernel : ∀ q ∈ fb_hv_termOf, q ∈ fb_hp_X9_codeAt) q (hfz q hq)) (d + 4)) hw10 hf11 ⟨(hx_tr (G := G) (s := 30) (b := 0) hG0 (by decide)), (ck_top_ok (G := G) gq), trivial⟩ (fun y0 y1 y2 h1 h2 => by cases h1; obtain ⟨fs1, g1, e1⟩ := h2; obtain rfl := hx_inj g14 g1; obtain rfl := hx_inji e26 e1; exact ⟨by omega, by omega⟩) (fun w488 z493 hw489 hf490 m491 a494 b495 u496 => ?_)
          rw [u496.1]
          have u497 := u496.2 _ _ _ _ _ _ rfl ⟨_, g14, e23⟩ g6 ⟨_, g14, e26⟩ rfl
          clear u496
          refine hx_k (l := 32) (m := 47) rfl rfl (by decide) (fun z498 h499 => ?_)
          refine hx_pi (l := 35) (as := [.int z498]) rfl rfl rfl (hp_X9_sign (fz := fz) hF (fun q hq => (by decide +kernel : ∀ q ∈ fb_hv_termOf, q ∈ fb_hp_X9_sign) q (hfz q hq)) (d + 4)) hw10 hf11 ⟨(hx_ti (G := G) (lo := 0) (hi := 255) (by omega) (by omega)), trivial⟩ trivial (fun w500 z505 hw501 hf502 m503 a506 b507 u508 => ?_)
          rw [u508.1]
          have u509 := u508.2 _ _ rfl rfl
          refine hx_ic_eq (l := 38) rfl rfl (fun h510 => ?_) (fun h510 => ?_)
          · -- 54
            obtain ⟨m1, y1, hm1, hz1, hz2⟩ := ((gr_tl hgq).resolve_right (fun zz => zz.1 (by omega))).2
            have lt1 := gc_lt (c := cf f) (e := e.toInt.toNat) (p := gq.toInt.toNat) (by omega)
            refine ax_go 2 (y := (56, [some (.ref o), some (.int lv), some (.long vs), none, (u4.map Value.int), (u5.map Value.long), none], [.ref o, .ref o], w1, 0, 0)) rfl trivial ?_
            refine hx_gf (l := 59) rfl rfl rfl g14 e15 ?_
            refine hx_pi (l := 62) (as := [.ref o, .int gq]) rfl rfl (hx_iv (j := 172) (n := 1) (o := o) (r := []) rfl rfl g14 rfl) (hp_X9_codeAt (fz := fz) hF (fun q hq => (by decide +kernel : ∀ q ∈ fb_hv_termOf, q ∈ fb_hp_X9_codeAt) q (hfz q hq)) (d + 4)) hw10 hf11 ⟨(hx_tr (G := G) (s := 30) (b := 0) hG0 (by decide)), (ck_top_ok (G := G) gq), trivial⟩ (fun y0 y1 y2 h1 h2 => by cases h1; obtain ⟨fs1, g1, e1⟩ := h2; obtain rfl := hx_inj g14 g1; obtain rfl := hx_inji e26 e1; exact ⟨by omega, by omega⟩) (fun w511 z516 hw512 hf513 m514 a517 b518 u519 => ?_)
            rw [u519.1]
            have u520 := u519.2 _ _ _ _ _ _ rfl ⟨_, g14, e23⟩ g6 ⟨_, g14, e26⟩ rfl
            clear u519
            refine ax_go 3 (y := (66, [some (.ref o), some (.int lv), some (.long vs), none, some (.int z516), (u5.map Value.long), none], [.ref o, .ref o], w1, 0, 0)) rfl trivial ?_
            refine hx_gf (l := 69) rfl rfl rfl g14 e15 ?_
            refine hx_k (l := 70) (m := 1) rfl rfl (by decide) (fun z521 h522 => ?_)
            refine hx_add (l := 71) rfl rfl (fun z523 h524 => ?_)
            replace h524 := h524 (by omega) (by omega)
            refine hx_pf (q := (0, 0, 0, 0, (-2147483648), 2147483647)) (s := 30) (l := 74) (v := .int z523) rfl rfl rfl (by decide) rfl rfl rfl hw10 hG0 g14 trivial (ck_top_ok (G := G) z523) (fun w525 fs526 g527 e528 o529 n530 hw531 n532 => ?_)
            have hs533 := ty_same_tr hs12 (n532 fz (hx_ok hfz (by decide)))
            have hf534 := hFF _ _ (n532 pr_ (by decide)) hf11
            refine ax_go 2 (y := (76, [some (.ref o), some (.int lv), some (.long vs), none, some (.int z516), (u5.map Value.long), none], [.int lv, .ref o], w525, 0, 0)) rfl trivial ?_
            refine hx_pj (l := 79) (as := [.ref o, .int lv]) rfl rfl (hx_iv (j := 177) (n := 1) (o := o) (r := []) rfl rfl g527 rfl) (ihpartOf m1 (by omega) b pk f e io z523 y1 (d + 5) he ⟨by omega, by omega⟩ (by rw [show z523.toInt.toNat = gq.toInt.toNat + 1 by omega]; exact hz1) (by omega)) hw531 hf534 ⟨(hx_tr (G := G) (s := 30) (b := 0) hG0 (by decide)), (hx_ti (G := G) (lo := 0) (hi := 1) (by omega) (by omega)), trivial⟩ (fun o1 l1 h1 => by cases h1; exact ⟨_, g527, ((o529 2 (by decide)).trans e23), e528, ((o529 23 (by decide)).trans e26), ((o529 25 (by decide)).trans e29), ((n530 _ (hx_ne hG_pk hG0 (by decide))).trans g6)⟩) (fun w535 z540 hw536 hf537 m538 a541 b542 u543 => ?_)
            have hs539 := ty_same_tr hs533 m538
            obtain ⟨gN544, hN545, fsN546, gA547, iA548, iB549, iC550, iD551, gK552⟩ := u543 _ _ rfl
            have le553 := gr_le hz1 (by omega)
            refine ax_go 2 (y := (83, [some (.ref o), some (.int lv), some (.long vs), none, some (.int z516), some (.long z540), none], [.int z516], w535, 0, 0)) rfl trivial ?_
            refine hx_k (l := 85) (m := 42) rfl rfl (by decide) (fun z554 h555 => ?_)
            refine hx_pi (l := 88) (as := [.int z554]) rfl rfl rfl (hp_X9_sign (fz := fz) hF (fun q hq => (by decide +kernel : ∀ q ∈ fb_hv_termOf, q ∈ fb_hp_X9_sign) q (hfz q hq)) (d + 4)) hw536 hf537 ⟨(hx_ti (G := G) (lo := 0) (hi := 255) (by omega) (by omega)), trivial⟩ trivial (fun w556 z561 hw557 hf558 m559 a562 b563 u564 => ?_)
            rw [u564.1]
            have u565 := u564.2 _ _ rfl rfl
            refine hx_ic_eq (l := 91) rfl rfl (fun h566 => ?_) (fun h566 => ?_)
            · -- 121
              refine ax_go 2 (y := (124, [some (.ref o), some (.int lv), some (.long vs), none, some (.int z516), some (.long z540), none], [.int z516, .ref o], w535, 0, 0)) rfl trivial ?_
              refine hx_k (l := 126) (m := 42) rfl rfl (by decide) (fun z567 h568 => ?_)
              refine hx_pi (l := 129) (as := [.int z567]) rfl rfl rfl (hp_X9_sign (fz := fz) hF (fun q hq => (by decide +kernel : ∀ q ∈ fb_hv_termOf, q ∈ fb_hp_X9_sign) q (hfz q hq)) (d + 4)) hw536 hf537 ⟨(hx_ti (G := G) (lo := 0) (hi := 255) (by omega) (by omega)), trivial⟩ trivial (fun w569 z574 hw570 hf571 m572 a575 b576 u577 => ?_)
              rw [u577.1]
              have u578 := u577.2 _ _ rfl rfl
              refine hx_ic_ne (l := 132) rfl rfl (fun h579 => ?_) (fun h579 => ?_)
              · -- 139
                refine ax_go 1 (y := (141, [some (.ref o), some (.int lv), some (.long vs), none, some (.int z516), some (.long z540), none], [.int z516, .ref o], w535, 0, 0)) rfl trivial ?_
                refine hx_k (l := 143) (m := 47) rfl rfl (by decide) (fun z580 h581 => ?_)
                refine hx_pi (l := 146) (as := [.int z580]) rfl rfl rfl (hp_X9_sign (fz := fz) hF (fun q hq => (by decide +kernel : ∀ q ∈ fb_hv_termOf, q ∈ fb_hp_X9_sign) q (hfz q hq)) (d + 4)) hw536 hf537 ⟨(hx_ti (G := G) (lo := 0) (hi := 255) (by omega) (by omega)), trivial⟩ trivial (fun w582 z587 hw583 hf584 m585 a588 b589 u590 => ?_)
                rw [u590.1]
                have u591 := u590.2 _ _ rfl rfl
                refine hx_ic_ne (l := 149) rfl rfl (fun h592 => ?_) (fun h592 => ?_)
                · -- 156
                  refine ax_go 2 (y := (159, [some (.ref o), some (.int lv), some (.long vs), none, some (.int z516), some (.long z540), none], [.long z540, .long vs, .ref o], w535, 0, 0)) rfl trivial ?_
                  refine hx_ldv (l := 160) rfl (by simp) rfl (by omega) (fun z593 => ?_)
                  refine ax_go 1 (y := (161, [some (.ref o), some (.int lv), some (.long vs), none, some (.int z516), some (.long z540), none], [.int lv, .long z593, .ref o], w535, 0, 0)) rfl trivial ?_
                  refine hx_cj (l := 164) (as := [.ref o, .long z593, .int lv]) rfl rfl (hx_iv (j := 174) (n := 2) (o := o) (r := []) rfl rfl gA547 rfl) (h_X9_bounded (fz := ([(32, 999), (30, 2), (30, 22), (30, 23), (30, 25)] ++ fz)) hF (hx_app (by decide +kernel) (fun q hq => (by decide +kernel : ∀ q ∈ fb_hv_termOf, q ∈ fb_X9_bounded) q (hfz q hq))) (d + 4)) hw536 hf537 ⟨(hx_tr (G := G) (s := 30) (b := 0) hG0 (by decide)), (ck_ltop_ok (G := G) z593), (hx_ti (G := G) (lo := 0) (hi := 1) (by omega) (by omega)), trivial⟩ (fun w594 z599 hw595 hf596 m597 => ?_)
                  have hs598 := ty_same_tr hs539 (hx_sapp m597)
                  obtain ⟨fs603, g604, -, q605⟩ := hx_obj hw595 hG0 (s := 30) rfl (by decide)
                  refine ax_go 2 (y := (6, [some (.ref o), some (.int lv), some (.long z599), none, some (.int z516), some (.long z540), none], [], w594, 0, 0)) rfl trivial ?_
                  exact ih6 w594 z599 (some z516) (some z540) gN544 m1 hw595 hf596 hs598 ⟨_, g604, ((hx_kf m597 (hx_mem hG0 (by decide)) gA547 g604).trans iB549)⟩ ⟨_, g604, ((hx_kf m597 (hx_mem hG0 (by decide)) gA547 g604).trans iA548)⟩ ⟨_, g604, ((hx_kf m597 (hx_mem hG0 (by decide)) gA547 g604).trans iC550)⟩ ⟨_, g604, ((hx_kf m597 (hx_mem hG0 (by decide)) gA547 g604).trans iD551)⟩ ((hx_kr m597 (hx_mem hG_pk (by decide))).trans gK552) (by rw [show gN544.toInt.toNat = y1 by omega]; exact hz2) (by omega) (by omega) (by omega) (by omega)
                · -- 149
                  refine ax_go 2 (y := (152, [some (.ref o), some (.int lv), some (.long vs), none, some (.int z516), some (.long z540), none], [.long z540, .long vs, .ref o], w535, 0, 0)) rfl trivial ?_
                  refine hx_ldv (l := 153) rfl (by simp) rfl (by omega) (fun z606 => ?_)
                  refine ax_go 2 (y := (161, [some (.ref o), some (.int lv), some (.long vs), none, some (.int z516), some (.long z540), none], [.int lv, .long z606, .ref o], w535, 0, 0)) rfl trivial ?_
                  refine hx_cj (l := 164) (as := [.ref o, .long z606, .int lv]) rfl rfl (hx_iv (j := 174) (n := 2) (o := o) (r := []) rfl rfl gA547 rfl) (h_X9_bounded (fz := ([(32, 999), (30, 2), (30, 22), (30, 23), (30, 25)] ++ fz)) hF (hx_app (by decide +kernel) (fun q hq => (by decide +kernel : ∀ q ∈ fb_hv_termOf, q ∈ fb_X9_bounded) q (hfz q hq))) (d + 4)) hw536 hf537 ⟨(hx_tr (G := G) (s := 30) (b := 0) hG0 (by decide)), (ck_ltop_ok (G := G) z606), (hx_ti (G := G) (lo := 0) (hi := 1) (by omega) (by omega)), trivial⟩ (fun w607 z612 hw608 hf609 m610 => ?_)
                  have hs611 := ty_same_tr hs539 (hx_sapp m610)
                  obtain ⟨fs616, g617, -, q618⟩ := hx_obj hw608 hG0 (s := 30) rfl (by decide)
                  refine ax_go 2 (y := (6, [some (.ref o), some (.int lv), some (.long z612), none, some (.int z516), some (.long z540), none], [], w607, 0, 0)) rfl trivial ?_
                  exact ih6 w607 z612 (some z516) (some z540) gN544 m1 hw608 hf609 hs611 ⟨_, g617, ((hx_kf m610 (hx_mem hG0 (by decide)) gA547 g617).trans iB549)⟩ ⟨_, g617, ((hx_kf m610 (hx_mem hG0 (by decide)) gA547 g617).trans iA548)⟩ ⟨_, g617, ((hx_kf m610 (hx_mem hG0 (by decide)) gA547 g617).trans iC550)⟩ ⟨_, g617, ((hx_kf m610 (hx_mem hG0 (by decide)) gA547 g617).trans iD551)⟩ ((hx_kr m610 (hx_mem hG_pk (by decide))).trans gK552) (by rw [show gN544.toInt.toNat = y1 by omega]; exact hz2) (by omega) (by omega) (by omega) (by omega)
              · -- 132
                refine ax_go 2 (y := (135, [some (.ref o), some (.int lv), some (.long vs), none, some (.int z516), some (.long z540), none], [.long z540, .long vs, .ref o], w535, 0, 0)) rfl trivial ?_
                refine hx_anyl (l := 136) rfl rfl (fun z619 => ?_)
                refine ax_go 2 (y := (161, [some (.ref o), some (.int lv), some (.long vs), none, some (.int z516), some (.long z540), none], [.int lv, .long z619, .ref o], w535, 0, 0)) rfl trivial ?_
                refine hx_cj (l := 164) (as := [.ref o, .long z619, .int lv]) rfl rfl (hx_iv (j := 174) (n := 2) (o := o) (r := []) rfl rfl gA547 rfl) (h_X9_bounded (fz := ([(32, 999), (30, 2), (30, 22), (30, 23), (30, 25)] ++ fz)) hF (hx_app (by decide +kernel) (fun q hq => (by decide +kernel : ∀ q ∈ fb_hv_termOf, q ∈ fb_X9_bounded) q (hfz q hq))) (d + 4)) hw536 hf537 ⟨(hx_tr (G := G) (s := 30) (b := 0) hG0 (by decide)), (ck_ltop_ok (G := G) z619), (hx_ti (G := G) (lo := 0) (hi := 1) (by omega) (by omega)), trivial⟩ (fun w620 z625 hw621 hf622 m623 => ?_)
                have hs624 := ty_same_tr hs539 (hx_sapp m623)
                obtain ⟨fs629, g630, -, q631⟩ := hx_obj hw621 hG0 (s := 30) rfl (by decide)
                refine ax_go 2 (y := (6, [some (.ref o), some (.int lv), some (.long z625), none, some (.int z516), some (.long z540), none], [], w620, 0, 0)) rfl trivial ?_
                exact ih6 w620 z625 (some z516) (some z540) gN544 m1 hw621 hf622 hs624 ⟨_, g630, ((hx_kf m623 (hx_mem hG0 (by decide)) gA547 g630).trans iB549)⟩ ⟨_, g630, ((hx_kf m623 (hx_mem hG0 (by decide)) gA547 g630).trans iA548)⟩ ⟨_, g630, ((hx_kf m623 (hx_mem hG0 (by decide)) gA547 g630).trans iC550)⟩ ⟨_, g630, ((hx_kf m623 (hx_mem hG0 (by decide)) gA547 g630).trans iD551)⟩ ((hx_kr m623 (hx_mem hG_pk (by decide))).trans gK552) (by rw [show gN544.toInt.toNat = y1 by omega]; exact hz2) (by omega) (by omega) (by omega) (by omega)
            · -- 91
              refine ax_go 1 (y := (93, [some (.ref o), some (.int lv), some (.long vs), none, some (.int z516), some (.long z540), none], [.long z540], w535, 0, 0)) rfl trivial ?_
              refine hx_lk (l := 94) (m := 0) rfl rfl (by decide) (fun z632 h633 => ?_)
              refine hx_lcmp (l := 95) rfl rfl (fun z634 h635 => ?_)
              refine hx_if_ne (l := 98) rfl rfl (fun h636 => ?_) (fun h636 => ?_)
              · -- 121
                refine ax_go 2 (y := (124, [some (.ref o), some (.int lv), some (.long vs), none, some (.int z516), some (.long z540), none], [.int z516, .ref o], w535, 0, 0)) rfl trivial ?_
                refine hx_k (l := 126) (m := 42) rfl rfl (by decide) (fun z637 h638 => ?_)
                refine hx_pi (l := 129) (as := [.int z637]) rfl rfl rfl (hp_X9_sign (fz := fz) hF (fun q hq => (by decide +kernel : ∀ q ∈ fb_hv_termOf, q ∈ fb_hp_X9_sign) q (hfz q hq)) (d + 4)) hw536 hf537 ⟨(hx_ti (G := G) (lo := 0) (hi := 255) (by omega) (by omega)), trivial⟩ trivial (fun w639 z644 hw640 hf641 m642 a645 b646 u647 => ?_)
                rw [u647.1]
                have u648 := u647.2 _ _ rfl rfl
                refine hx_ic_ne (l := 132) rfl rfl (fun h649 => ?_) (fun h649 => ?_)
                · -- 139
                  refine ax_go 1 (y := (141, [some (.ref o), some (.int lv), some (.long vs), none, some (.int z516), some (.long z540), none], [.int z516, .ref o], w535, 0, 0)) rfl trivial ?_
                  refine hx_k (l := 143) (m := 47) rfl rfl (by decide) (fun z650 h651 => ?_)
                  refine hx_pi (l := 146) (as := [.int z650]) rfl rfl rfl (hp_X9_sign (fz := fz) hF (fun q hq => (by decide +kernel : ∀ q ∈ fb_hv_termOf, q ∈ fb_hp_X9_sign) q (hfz q hq)) (d + 4)) hw536 hf537 ⟨(hx_ti (G := G) (lo := 0) (hi := 255) (by omega) (by omega)), trivial⟩ trivial (fun w652 z657 hw653 hf654 m655 a658 b659 u660 => ?_)
                  rw [u660.1]
                  have u661 := u660.2 _ _ rfl rfl
                  refine hx_ic_ne (l := 149) rfl rfl (fun h662 => ?_) (fun h662 => ?_)
                  · -- 156
                    refine ax_go 2 (y := (159, [some (.ref o), some (.int lv), some (.long vs), none, some (.int z516), some (.long z540), none], [.long z540, .long vs, .ref o], w535, 0, 0)) rfl trivial ?_
                    refine hx_ldv (l := 160) rfl (by simp) rfl (by omega) (fun z663 => ?_)
                    refine ax_go 1 (y := (161, [some (.ref o), some (.int lv), some (.long vs), none, some (.int z516), some (.long z540), none], [.int lv, .long z663, .ref o], w535, 0, 0)) rfl trivial ?_
                    refine hx_cj (l := 164) (as := [.ref o, .long z663, .int lv]) rfl rfl (hx_iv (j := 174) (n := 2) (o := o) (r := []) rfl rfl gA547 rfl) (h_X9_bounded (fz := ([(32, 999), (30, 2), (30, 22), (30, 23), (30, 25)] ++ fz)) hF (hx_app (by decide +kernel) (fun q hq => (by decide +kernel : ∀ q ∈ fb_hv_termOf, q ∈ fb_X9_bounded) q (hfz q hq))) (d + 4)) hw536 hf537 ⟨(hx_tr (G := G) (s := 30) (b := 0) hG0 (by decide)), (ck_ltop_ok (G := G) z663), (hx_ti (G := G) (lo := 0) (hi := 1) (by omega) (by omega)), trivial⟩ (fun w664 z669 hw665 hf666 m667 => ?_)
                    have hs668 := ty_same_tr hs539 (hx_sapp m667)
                    obtain ⟨fs673, g674, -, q675⟩ := hx_obj hw665 hG0 (s := 30) rfl (by decide)
                    refine ax_go 2 (y := (6, [some (.ref o), some (.int lv), some (.long z669), none, some (.int z516), some (.long z540), none], [], w664, 0, 0)) rfl trivial ?_
                    exact ih6 w664 z669 (some z516) (some z540) gN544 m1 hw665 hf666 hs668 ⟨_, g674, ((hx_kf m667 (hx_mem hG0 (by decide)) gA547 g674).trans iB549)⟩ ⟨_, g674, ((hx_kf m667 (hx_mem hG0 (by decide)) gA547 g674).trans iA548)⟩ ⟨_, g674, ((hx_kf m667 (hx_mem hG0 (by decide)) gA547 g674).trans iC550)⟩ ⟨_, g674, ((hx_kf m667 (hx_mem hG0 (by decide)) gA547 g674).trans iD551)⟩ ((hx_kr m667 (hx_mem hG_pk (by decide))).trans gK552) (by rw [show gN544.toInt.toNat = y1 by omega]; exact hz2) (by omega) (by omega) (by omega) (by omega)
                  · -- 149
                    refine ax_go 2 (y := (152, [some (.ref o), some (.int lv), some (.long vs), none, some (.int z516), some (.long z540), none], [.long z540, .long vs, .ref o], w535, 0, 0)) rfl trivial ?_
                    refine hx_ldv (l := 153) rfl (by simp) rfl (by omega) (fun z676 => ?_)
                    refine ax_go 2 (y := (161, [some (.ref o), some (.int lv), some (.long vs), none, some (.int z516), some (.long z540), none], [.int lv, .long z676, .ref o], w535, 0, 0)) rfl trivial ?_
                    refine hx_cj (l := 164) (as := [.ref o, .long z676, .int lv]) rfl rfl (hx_iv (j := 174) (n := 2) (o := o) (r := []) rfl rfl gA547 rfl) (h_X9_bounded (fz := ([(32, 999), (30, 2), (30, 22), (30, 23), (30, 25)] ++ fz)) hF (hx_app (by decide +kernel) (fun q hq => (by decide +kernel : ∀ q ∈ fb_hv_termOf, q ∈ fb_X9_bounded) q (hfz q hq))) (d + 4)) hw536 hf537 ⟨(hx_tr (G := G) (s := 30) (b := 0) hG0 (by decide)), (ck_ltop_ok (G := G) z676), (hx_ti (G := G) (lo := 0) (hi := 1) (by omega) (by omega)), trivial⟩ (fun w677 z682 hw678 hf679 m680 => ?_)
                    have hs681 := ty_same_tr hs539 (hx_sapp m680)
                    obtain ⟨fs686, g687, -, q688⟩ := hx_obj hw678 hG0 (s := 30) rfl (by decide)
                    refine ax_go 2 (y := (6, [some (.ref o), some (.int lv), some (.long z682), none, some (.int z516), some (.long z540), none], [], w677, 0, 0)) rfl trivial ?_
                    exact ih6 w677 z682 (some z516) (some z540) gN544 m1 hw678 hf679 hs681 ⟨_, g687, ((hx_kf m680 (hx_mem hG0 (by decide)) gA547 g687).trans iB549)⟩ ⟨_, g687, ((hx_kf m680 (hx_mem hG0 (by decide)) gA547 g687).trans iA548)⟩ ⟨_, g687, ((hx_kf m680 (hx_mem hG0 (by decide)) gA547 g687).trans iC550)⟩ ⟨_, g687, ((hx_kf m680 (hx_mem hG0 (by decide)) gA547 g687).trans iD551)⟩ ((hx_kr m680 (hx_mem hG_pk (by decide))).trans gK552) (by rw [show gN544.toInt.toNat = y1 by omega]; exact hz2) (by omega) (by omega) (by omega) (by omega)
                · -- 132
                  refine ax_go 2 (y := (135, [some (.ref o), some (.int lv), some (.long vs), none, some (.int z516), some (.long z540), none], [.long z540, .long vs, .ref o], w535, 0, 0)) rfl trivial ?_
                  refine hx_anyl (l := 136) rfl rfl (fun z689 => ?_)
                  refine ax_go 2 (y := (161, [some (.ref o), some (.int lv), some (.long vs), none, some (.int z516), some (.long z540), none], [.int lv, .long z689, .ref o], w535, 0, 0)) rfl trivial ?_
                  refine hx_cj (l := 164) (as := [.ref o, .long z689, .int lv]) rfl rfl (hx_iv (j := 174) (n := 2) (o := o) (r := []) rfl rfl gA547 rfl) (h_X9_bounded (fz := ([(32, 999), (30, 2), (30, 22), (30, 23), (30, 25)] ++ fz)) hF (hx_app (by decide +kernel) (fun q hq => (by decide +kernel : ∀ q ∈ fb_hv_termOf, q ∈ fb_X9_bounded) q (hfz q hq))) (d + 4)) hw536 hf537 ⟨(hx_tr (G := G) (s := 30) (b := 0) hG0 (by decide)), (ck_ltop_ok (G := G) z689), (hx_ti (G := G) (lo := 0) (hi := 1) (by omega) (by omega)), trivial⟩ (fun w690 z695 hw691 hf692 m693 => ?_)
                  have hs694 := ty_same_tr hs539 (hx_sapp m693)
                  obtain ⟨fs699, g700, -, q701⟩ := hx_obj hw691 hG0 (s := 30) rfl (by decide)
                  refine ax_go 2 (y := (6, [some (.ref o), some (.int lv), some (.long z695), none, some (.int z516), some (.long z540), none], [], w690, 0, 0)) rfl trivial ?_
                  exact ih6 w690 z695 (some z516) (some z540) gN544 m1 hw691 hf692 hs694 ⟨_, g700, ((hx_kf m693 (hx_mem hG0 (by decide)) gA547 g700).trans iB549)⟩ ⟨_, g700, ((hx_kf m693 (hx_mem hG0 (by decide)) gA547 g700).trans iA548)⟩ ⟨_, g700, ((hx_kf m693 (hx_mem hG0 (by decide)) gA547 g700).trans iC550)⟩ ⟨_, g700, ((hx_kf m693 (hx_mem hG0 (by decide)) gA547 g700).trans iD551)⟩ ((hx_kr m693 (hx_mem hG_pk (by decide))).trans gK552) (by rw [show gN544.toInt.toNat = y1 by omega]; exact hz2) (by omega) (by omega) (by omega) (by omega)
              · -- 98
                refine ax_go 2 (y := (100, [some (.ref o), some (.int lv), some (.long vs), none, some (.int z516), some (.long z540), none], [.ref o, .ref o], w535, 0, 0)) rfl trivial ?_
                have q702 := hx_oq hw536 gA547 hG0 (s := 30) rfl
                obtain ⟨x703, e704, a705, b706⟩ := hx_fi (k := 24) (lo := 0) (hi := 1) q702 rfl
                refine hx_gf (l := 103) rfl rfl rfl gA547 e704 ?_
                refine hx_if_ne (l := 106) rfl rfl (fun h707 => ?_) (fun h707 => ?_)
                · -- 110
                  refine hx_k (l := 111) (m := 1) rfl rfl (by decide) (fun z708 h709 => ?_)
                  refine ax_go 1 (y := (115, [some (.ref o), some (.int lv), some (.long vs), none, some (.int z516), some (.long z540), none], [.int z708, .ref o], w535, 0, 0)) rfl trivial ?_
                  refine hx_pf (q := (0, 0, 0, 0, 0, 1)) (s := 30) (l := 118) (v := .int z708) rfl rfl rfl (by decide) rfl rfl rfl hw536 hG0 gA547 ⟨hx_01 (by omega) (by omega), trivial⟩ (hx_ti (G := G) (lo := 0) (hi := 1) (by omega) (by omega)) (fun w710 fs711 g712 e713 o714 n715 hw716 n717 => ?_)
                  have hs718 := ty_same_tr hs539 (n717 fz (hx_ok hfz (by decide)))
                  have hf719 := hFF _ _ (n717 pr_ (by decide)) hf537
                  refine hx_lk (l := 119) (m := 1) rfl rfl (by decide) (fun z720 h721 => ?_)
                  refine ax_go 3 (y := (124, [some (.ref o), some (.int lv), some (.long vs), none, some (.int z516), some (.long z720), none], [.int z516, .ref o], w710, 0, 0)) rfl trivial ?_
                  refine hx_k (l := 126) (m := 42) rfl rfl (by decide) (fun z722 h723 => ?_)
                  refine hx_pi (l := 129) (as := [.int z722]) rfl rfl rfl (hp_X9_sign (fz := fz) hF (fun q hq => (by decide +kernel : ∀ q ∈ fb_hv_termOf, q ∈ fb_hp_X9_sign) q (hfz q hq)) (d + 4)) hw716 hf719 ⟨(hx_ti (G := G) (lo := 0) (hi := 255) (by omega) (by omega)), trivial⟩ trivial (fun w724 z729 hw725 hf726 m727 a730 b731 u732 => ?_)
                  rw [u732.1]
                  have u733 := u732.2 _ _ rfl rfl
                  refine hx_ic_ne (l := 132) rfl rfl (fun h734 => ?_) (fun h734 => ?_)
                  · -- 139
                    refine ax_go 1 (y := (141, [some (.ref o), some (.int lv), some (.long vs), none, some (.int z516), some (.long z720), none], [.int z516, .ref o], w710, 0, 0)) rfl trivial ?_
                    refine hx_k (l := 143) (m := 47) rfl rfl (by decide) (fun z735 h736 => ?_)
                    refine hx_pi (l := 146) (as := [.int z735]) rfl rfl rfl (hp_X9_sign (fz := fz) hF (fun q hq => (by decide +kernel : ∀ q ∈ fb_hv_termOf, q ∈ fb_hp_X9_sign) q (hfz q hq)) (d + 4)) hw716 hf719 ⟨(hx_ti (G := G) (lo := 0) (hi := 255) (by omega) (by omega)), trivial⟩ trivial (fun w737 z742 hw738 hf739 m740 a743 b744 u745 => ?_)
                    rw [u745.1]
                    have u746 := u745.2 _ _ rfl rfl
                    refine hx_ic_ne (l := 149) rfl rfl (fun h747 => ?_) (fun h747 => ?_)
                    · -- 156
                      refine ax_go 2 (y := (159, [some (.ref o), some (.int lv), some (.long vs), none, some (.int z516), some (.long z720), none], [.long z720, .long vs, .ref o], w710, 0, 0)) rfl trivial ?_
                      refine hx_ldv (l := 160) rfl (by simp) rfl (by omega) (fun z748 => ?_)
                      refine ax_go 1 (y := (161, [some (.ref o), some (.int lv), some (.long vs), none, some (.int z516), some (.long z720), none], [.int lv, .long z748, .ref o], w710, 0, 0)) rfl trivial ?_
                      refine hx_cj (l := 164) (as := [.ref o, .long z748, .int lv]) rfl rfl (hx_iv (j := 174) (n := 2) (o := o) (r := []) rfl rfl g712 rfl) (h_X9_bounded (fz := ([(32, 999), (30, 2), (30, 22), (30, 23), (30, 25)] ++ fz)) hF (hx_app (by decide +kernel) (fun q hq => (by decide +kernel : ∀ q ∈ fb_hv_termOf, q ∈ fb_X9_bounded) q (hfz q hq))) (d + 4)) hw716 hf719 ⟨(hx_tr (G := G) (s := 30) (b := 0) hG0 (by decide)), (ck_ltop_ok (G := G) z748), (hx_ti (G := G) (lo := 0) (hi := 1) (by omega) (by omega)), trivial⟩ (fun w749 z754 hw750 hf751 m752 => ?_)
                      have hs753 := ty_same_tr hs718 (hx_sapp m752)
                      obtain ⟨fs758, g759, -, q760⟩ := hx_obj hw750 hG0 (s := 30) rfl (by decide)
                      refine ax_go 2 (y := (6, [some (.ref o), some (.int lv), some (.long z754), none, some (.int z516), some (.long z720), none], [], w749, 0, 0)) rfl trivial ?_
                      exact ih6 w749 z754 (some z516) (some z720) gN544 m1 hw750 hf751 hs753 ⟨_, g759, ((hx_kf m752 (hx_mem hG0 (by decide)) g712 g759).trans ((o714 22 (by decide)).trans iB549))⟩ ⟨_, g759, ((hx_kf m752 (hx_mem hG0 (by decide)) g712 g759).trans ((o714 2 (by decide)).trans iA548))⟩ ⟨_, g759, ((hx_kf m752 (hx_mem hG0 (by decide)) g712 g759).trans ((o714 23 (by decide)).trans iC550))⟩ ⟨_, g759, ((hx_kf m752 (hx_mem hG0 (by decide)) g712 g759).trans ((o714 25 (by decide)).trans iD551))⟩ ((hx_kr m752 (hx_mem hG_pk (by decide))).trans ((n715 _ (hx_ne hG_pk hG0 (by decide))).trans gK552)) (by rw [show gN544.toInt.toNat = y1 by omega]; exact hz2) (by omega) (by omega) (by omega) (by omega)
                    · -- 149
                      refine ax_go 2 (y := (152, [some (.ref o), some (.int lv), some (.long vs), none, some (.int z516), some (.long z720), none], [.long z720, .long vs, .ref o], w710, 0, 0)) rfl trivial ?_
                      refine hx_ldv (l := 153) rfl (by simp) rfl (by omega) (fun z761 => ?_)
                      refine ax_go 2 (y := (161, [some (.ref o), some (.int lv), some (.long vs), none, some (.int z516), some (.long z720), none], [.int lv, .long z761, .ref o], w710, 0, 0)) rfl trivial ?_
                      refine hx_cj (l := 164) (as := [.ref o, .long z761, .int lv]) rfl rfl (hx_iv (j := 174) (n := 2) (o := o) (r := []) rfl rfl g712 rfl) (h_X9_bounded (fz := ([(32, 999), (30, 2), (30, 22), (30, 23), (30, 25)] ++ fz)) hF (hx_app (by decide +kernel) (fun q hq => (by decide +kernel : ∀ q ∈ fb_hv_termOf, q ∈ fb_X9_bounded) q (hfz q hq))) (d + 4)) hw716 hf719 ⟨(hx_tr (G := G) (s := 30) (b := 0) hG0 (by decide)), (ck_ltop_ok (G := G) z761), (hx_ti (G := G) (lo := 0) (hi := 1) (by omega) (by omega)), trivial⟩ (fun w762 z767 hw763 hf764 m765 => ?_)
                      have hs766 := ty_same_tr hs718 (hx_sapp m765)
                      obtain ⟨fs771, g772, -, q773⟩ := hx_obj hw763 hG0 (s := 30) rfl (by decide)
                      refine ax_go 2 (y := (6, [some (.ref o), some (.int lv), some (.long z767), none, some (.int z516), some (.long z720), none], [], w762, 0, 0)) rfl trivial ?_
                      exact ih6 w762 z767 (some z516) (some z720) gN544 m1 hw763 hf764 hs766 ⟨_, g772, ((hx_kf m765 (hx_mem hG0 (by decide)) g712 g772).trans ((o714 22 (by decide)).trans iB549))⟩ ⟨_, g772, ((hx_kf m765 (hx_mem hG0 (by decide)) g712 g772).trans ((o714 2 (by decide)).trans iA548))⟩ ⟨_, g772, ((hx_kf m765 (hx_mem hG0 (by decide)) g712 g772).trans ((o714 23 (by decide)).trans iC550))⟩ ⟨_, g772, ((hx_kf m765 (hx_mem hG0 (by decide)) g712 g772).trans ((o714 25 (by decide)).trans iD551))⟩ ((hx_kr m765 (hx_mem hG_pk (by decide))).trans ((n715 _ (hx_ne hG_pk hG0 (by decide))).trans gK552)) (by rw [show gN544.toInt.toNat = y1 by omega]; exact hz2) (by omega) (by omega) (by omega) (by omega)
                  · -- 132
                    refine ax_go 2 (y := (135, [some (.ref o), some (.int lv), some (.long vs), none, some (.int z516), some (.long z720), none], [.long z720, .long vs, .ref o], w710, 0, 0)) rfl trivial ?_
                    refine hx_anyl (l := 136) rfl rfl (fun z774 => ?_)
                    refine ax_go 2 (y := (161, [some (.ref o), some (.int lv), some (.long vs), none, some (.int z516), some (.long z720), none], [.int lv, .long z774, .ref o], w710, 0, 0)) rfl trivial ?_
                    refine hx_cj (l := 164) (as := [.ref o, .long z774, .int lv]) rfl rfl (hx_iv (j := 174) (n := 2) (o := o) (r := []) rfl rfl g712 rfl) (h_X9_bounded (fz := ([(32, 999), (30, 2), (30, 22), (30, 23), (30, 25)] ++ fz)) hF (hx_app (by decide +kernel) (fun q hq => (by decide +kernel : ∀ q ∈ fb_hv_termOf, q ∈ fb_X9_bounded) q (hfz q hq))) (d + 4)) hw716 hf719 ⟨(hx_tr (G := G) (s := 30) (b := 0) hG0 (by decide)), (ck_ltop_ok (G := G) z774), (hx_ti (G := G) (lo := 0) (hi := 1) (by omega) (by omega)), trivial⟩ (fun w775 z780 hw776 hf777 m778 => ?_)
                    have hs779 := ty_same_tr hs718 (hx_sapp m778)
                    obtain ⟨fs784, g785, -, q786⟩ := hx_obj hw776 hG0 (s := 30) rfl (by decide)
                    refine ax_go 2 (y := (6, [some (.ref o), some (.int lv), some (.long z780), none, some (.int z516), some (.long z720), none], [], w775, 0, 0)) rfl trivial ?_
                    exact ih6 w775 z780 (some z516) (some z720) gN544 m1 hw776 hf777 hs779 ⟨_, g785, ((hx_kf m778 (hx_mem hG0 (by decide)) g712 g785).trans ((o714 22 (by decide)).trans iB549))⟩ ⟨_, g785, ((hx_kf m778 (hx_mem hG0 (by decide)) g712 g785).trans ((o714 2 (by decide)).trans iA548))⟩ ⟨_, g785, ((hx_kf m778 (hx_mem hG0 (by decide)) g712 g785).trans ((o714 23 (by decide)).trans iC550))⟩ ⟨_, g785, ((hx_kf m778 (hx_mem hG0 (by decide)) g712 g785).trans ((o714 25 (by decide)).trans iD551))⟩ ((hx_kr m778 (hx_mem hG_pk (by decide))).trans ((n715 _ (hx_ne hG_pk hG0 (by decide))).trans gK552)) (by rw [show gN544.toInt.toNat = y1 by omega]; exact hz2) (by omega) (by omega) (by omega) (by omega)
                · -- 106
                  refine ax_go 1 (y := (107, [some (.ref o), some (.int lv), some (.long vs), none, some (.int z516), some (.long z540), none], [.int lv, .ref o], w535, 0, 0)) rfl trivial ?_
                  refine hx_if_eq (l := 110) rfl rfl (fun h787 => ?_) (fun h787 => ?_)
                  · -- 114
                    refine hx_k (l := 115) (m := 0) rfl rfl (by decide) (fun z788 h789 => ?_)
                    refine hx_pf (q := (0, 0, 0, 0, 0, 1)) (s := 30) (l := 118) (v := .int z788) rfl rfl rfl (by decide) rfl rfl rfl hw536 hG0 gA547 ⟨hx_01 (by omega) (by omega), trivial⟩ (hx_ti (G := G) (lo := 0) (hi := 1) (by omega) (by omega)) (fun w790 fs791 g792 e793 o794 n795 hw796 n797 => ?_)
                    have hs798 := ty_same_tr hs539 (n797 fz (hx_ok hfz (by decide)))
                    have hf799 := hFF _ _ (n797 pr_ (by decide)) hf537
                    refine hx_lk (l := 119) (m := 1) rfl rfl (by decide) (fun z800 h801 => ?_)
                    refine ax_go 3 (y := (124, [some (.ref o), some (.int lv), some (.long vs), none, some (.int z516), some (.long z800), none], [.int z516, .ref o], w790, 0, 0)) rfl trivial ?_
                    refine hx_k (l := 126) (m := 42) rfl rfl (by decide) (fun z802 h803 => ?_)
                    refine hx_pi (l := 129) (as := [.int z802]) rfl rfl rfl (hp_X9_sign (fz := fz) hF (fun q hq => (by decide +kernel : ∀ q ∈ fb_hv_termOf, q ∈ fb_hp_X9_sign) q (hfz q hq)) (d + 4)) hw796 hf799 ⟨(hx_ti (G := G) (lo := 0) (hi := 255) (by omega) (by omega)), trivial⟩ trivial (fun w804 z809 hw805 hf806 m807 a810 b811 u812 => ?_)
                    rw [u812.1]
                    have u813 := u812.2 _ _ rfl rfl
                    refine hx_ic_ne (l := 132) rfl rfl (fun h814 => ?_) (fun h814 => ?_)
                    · -- 139
                      refine ax_go 1 (y := (141, [some (.ref o), some (.int lv), some (.long vs), none, some (.int z516), some (.long z800), none], [.int z516, .ref o], w790, 0, 0)) rfl trivial ?_
                      refine hx_k (l := 143) (m := 47) rfl rfl (by decide) (fun z815 h816 => ?_)
                      refine hx_pi (l := 146) (as := [.int z815]) rfl rfl rfl (hp_X9_sign (fz := fz) hF (fun q hq => (by decide +kernel : ∀ q ∈ fb_hv_termOf, q ∈ fb_hp_X9_sign) q (hfz q hq)) (d + 4)) hw796 hf799 ⟨(hx_ti (G := G) (lo := 0) (hi := 255) (by omega) (by omega)), trivial⟩ trivial (fun w817 z822 hw818 hf819 m820 a823 b824 u825 => ?_)
                      rw [u825.1]
                      have u826 := u825.2 _ _ rfl rfl
                      refine hx_ic_ne (l := 149) rfl rfl (fun h827 => ?_) (fun h827 => ?_)
                      · -- 156
                        refine ax_go 2 (y := (159, [some (.ref o), some (.int lv), some (.long vs), none, some (.int z516), some (.long z800), none], [.long z800, .long vs, .ref o], w790, 0, 0)) rfl trivial ?_
                        refine hx_ldv (l := 160) rfl (by simp) rfl (by omega) (fun z828 => ?_)
                        refine ax_go 1 (y := (161, [some (.ref o), some (.int lv), some (.long vs), none, some (.int z516), some (.long z800), none], [.int lv, .long z828, .ref o], w790, 0, 0)) rfl trivial ?_
                        refine hx_cj (l := 164) (as := [.ref o, .long z828, .int lv]) rfl rfl (hx_iv (j := 174) (n := 2) (o := o) (r := []) rfl rfl g792 rfl) (h_X9_bounded (fz := ([(32, 999), (30, 2), (30, 22), (30, 23), (30, 25)] ++ fz)) hF (hx_app (by decide +kernel) (fun q hq => (by decide +kernel : ∀ q ∈ fb_hv_termOf, q ∈ fb_X9_bounded) q (hfz q hq))) (d + 4)) hw796 hf799 ⟨(hx_tr (G := G) (s := 30) (b := 0) hG0 (by decide)), (ck_ltop_ok (G := G) z828), (hx_ti (G := G) (lo := 0) (hi := 1) (by omega) (by omega)), trivial⟩ (fun w829 z834 hw830 hf831 m832 => ?_)
                        have hs833 := ty_same_tr hs798 (hx_sapp m832)
                        obtain ⟨fs838, g839, -, q840⟩ := hx_obj hw830 hG0 (s := 30) rfl (by decide)
                        refine ax_go 2 (y := (6, [some (.ref o), some (.int lv), some (.long z834), none, some (.int z516), some (.long z800), none], [], w829, 0, 0)) rfl trivial ?_
                        exact ih6 w829 z834 (some z516) (some z800) gN544 m1 hw830 hf831 hs833 ⟨_, g839, ((hx_kf m832 (hx_mem hG0 (by decide)) g792 g839).trans ((o794 22 (by decide)).trans iB549))⟩ ⟨_, g839, ((hx_kf m832 (hx_mem hG0 (by decide)) g792 g839).trans ((o794 2 (by decide)).trans iA548))⟩ ⟨_, g839, ((hx_kf m832 (hx_mem hG0 (by decide)) g792 g839).trans ((o794 23 (by decide)).trans iC550))⟩ ⟨_, g839, ((hx_kf m832 (hx_mem hG0 (by decide)) g792 g839).trans ((o794 25 (by decide)).trans iD551))⟩ ((hx_kr m832 (hx_mem hG_pk (by decide))).trans ((n795 _ (hx_ne hG_pk hG0 (by decide))).trans gK552)) (by rw [show gN544.toInt.toNat = y1 by omega]; exact hz2) (by omega) (by omega) (by omega) (by omega)
                      · -- 149
                        refine ax_go 2 (y := (152, [some (.ref o), some (.int lv), some (.long vs), none, some (.int z516), some (.long z800), none], [.long z800, .long vs, .ref o], w790, 0, 0)) rfl trivial ?_
                        refine hx_ldv (l := 153) rfl (by simp) rfl (by omega) (fun z841 => ?_)
                        refine ax_go 2 (y := (161, [some (.ref o), some (.int lv), some (.long vs), none, some (.int z516), some (.long z800), none], [.int lv, .long z841, .ref o], w790, 0, 0)) rfl trivial ?_
                        refine hx_cj (l := 164) (as := [.ref o, .long z841, .int lv]) rfl rfl (hx_iv (j := 174) (n := 2) (o := o) (r := []) rfl rfl g792 rfl) (h_X9_bounded (fz := ([(32, 999), (30, 2), (30, 22), (30, 23), (30, 25)] ++ fz)) hF (hx_app (by decide +kernel) (fun q hq => (by decide +kernel : ∀ q ∈ fb_hv_termOf, q ∈ fb_X9_bounded) q (hfz q hq))) (d + 4)) hw796 hf799 ⟨(hx_tr (G := G) (s := 30) (b := 0) hG0 (by decide)), (ck_ltop_ok (G := G) z841), (hx_ti (G := G) (lo := 0) (hi := 1) (by omega) (by omega)), trivial⟩ (fun w842 z847 hw843 hf844 m845 => ?_)
                        have hs846 := ty_same_tr hs798 (hx_sapp m845)
                        obtain ⟨fs851, g852, -, q853⟩ := hx_obj hw843 hG0 (s := 30) rfl (by decide)
                        refine ax_go 2 (y := (6, [some (.ref o), some (.int lv), some (.long z847), none, some (.int z516), some (.long z800), none], [], w842, 0, 0)) rfl trivial ?_
                        exact ih6 w842 z847 (some z516) (some z800) gN544 m1 hw843 hf844 hs846 ⟨_, g852, ((hx_kf m845 (hx_mem hG0 (by decide)) g792 g852).trans ((o794 22 (by decide)).trans iB549))⟩ ⟨_, g852, ((hx_kf m845 (hx_mem hG0 (by decide)) g792 g852).trans ((o794 2 (by decide)).trans iA548))⟩ ⟨_, g852, ((hx_kf m845 (hx_mem hG0 (by decide)) g792 g852).trans ((o794 23 (by decide)).trans iC550))⟩ ⟨_, g852, ((hx_kf m845 (hx_mem hG0 (by decide)) g792 g852).trans ((o794 25 (by decide)).trans iD551))⟩ ((hx_kr m845 (hx_mem hG_pk (by decide))).trans ((n795 _ (hx_ne hG_pk hG0 (by decide))).trans gK552)) (by rw [show gN544.toInt.toNat = y1 by omega]; exact hz2) (by omega) (by omega) (by omega) (by omega)
                    · -- 132
                      refine ax_go 2 (y := (135, [some (.ref o), some (.int lv), some (.long vs), none, some (.int z516), some (.long z800), none], [.long z800, .long vs, .ref o], w790, 0, 0)) rfl trivial ?_
                      refine hx_anyl (l := 136) rfl rfl (fun z854 => ?_)
                      refine ax_go 2 (y := (161, [some (.ref o), some (.int lv), some (.long vs), none, some (.int z516), some (.long z800), none], [.int lv, .long z854, .ref o], w790, 0, 0)) rfl trivial ?_
                      refine hx_cj (l := 164) (as := [.ref o, .long z854, .int lv]) rfl rfl (hx_iv (j := 174) (n := 2) (o := o) (r := []) rfl rfl g792 rfl) (h_X9_bounded (fz := ([(32, 999), (30, 2), (30, 22), (30, 23), (30, 25)] ++ fz)) hF (hx_app (by decide +kernel) (fun q hq => (by decide +kernel : ∀ q ∈ fb_hv_termOf, q ∈ fb_X9_bounded) q (hfz q hq))) (d + 4)) hw796 hf799 ⟨(hx_tr (G := G) (s := 30) (b := 0) hG0 (by decide)), (ck_ltop_ok (G := G) z854), (hx_ti (G := G) (lo := 0) (hi := 1) (by omega) (by omega)), trivial⟩ (fun w855 z860 hw856 hf857 m858 => ?_)
                      have hs859 := ty_same_tr hs798 (hx_sapp m858)
                      obtain ⟨fs864, g865, -, q866⟩ := hx_obj hw856 hG0 (s := 30) rfl (by decide)
                      refine ax_go 2 (y := (6, [some (.ref o), some (.int lv), some (.long z860), none, some (.int z516), some (.long z800), none], [], w855, 0, 0)) rfl trivial ?_
                      exact ih6 w855 z860 (some z516) (some z800) gN544 m1 hw856 hf857 hs859 ⟨_, g865, ((hx_kf m858 (hx_mem hG0 (by decide)) g792 g865).trans ((o794 22 (by decide)).trans iB549))⟩ ⟨_, g865, ((hx_kf m858 (hx_mem hG0 (by decide)) g792 g865).trans ((o794 2 (by decide)).trans iA548))⟩ ⟨_, g865, ((hx_kf m858 (hx_mem hG0 (by decide)) g792 g865).trans ((o794 23 (by decide)).trans iC550))⟩ ⟨_, g865, ((hx_kf m858 (hx_mem hG0 (by decide)) g792 g865).trans ((o794 25 (by decide)).trans iD551))⟩ ((hx_kr m858 (hx_mem hG_pk (by decide))).trans ((n795 _ (hx_ne hG_pk hG0 (by decide))).trans gK552)) (by rw [show gN544.toInt.toNat = y1 by omega]; exact hz2) (by omega) (by omega) (by omega) (by omega)
                  · -- 110
                    refine hx_k (l := 111) (m := 1) rfl rfl (by decide) (fun z867 h868 => ?_)
                    refine ax_go 1 (y := (115, [some (.ref o), some (.int lv), some (.long vs), none, some (.int z516), some (.long z540), none], [.int z867, .ref o], w535, 0, 0)) rfl trivial ?_
                    refine hx_pf (q := (0, 0, 0, 0, 0, 1)) (s := 30) (l := 118) (v := .int z867) rfl rfl rfl (by decide) rfl rfl rfl hw536 hG0 gA547 ⟨hx_01 (by omega) (by omega), trivial⟩ (hx_ti (G := G) (lo := 0) (hi := 1) (by omega) (by omega)) (fun w869 fs870 g871 e872 o873 n874 hw875 n876 => ?_)
                    have hs877 := ty_same_tr hs539 (n876 fz (hx_ok hfz (by decide)))
                    have hf878 := hFF _ _ (n876 pr_ (by decide)) hf537
                    refine hx_lk (l := 119) (m := 1) rfl rfl (by decide) (fun z879 h880 => ?_)
                    refine ax_go 3 (y := (124, [some (.ref o), some (.int lv), some (.long vs), none, some (.int z516), some (.long z879), none], [.int z516, .ref o], w869, 0, 0)) rfl trivial ?_
                    refine hx_k (l := 126) (m := 42) rfl rfl (by decide) (fun z881 h882 => ?_)
                    refine hx_pi (l := 129) (as := [.int z881]) rfl rfl rfl (hp_X9_sign (fz := fz) hF (fun q hq => (by decide +kernel : ∀ q ∈ fb_hv_termOf, q ∈ fb_hp_X9_sign) q (hfz q hq)) (d + 4)) hw875 hf878 ⟨(hx_ti (G := G) (lo := 0) (hi := 255) (by omega) (by omega)), trivial⟩ trivial (fun w883 z888 hw884 hf885 m886 a889 b890 u891 => ?_)
                    rw [u891.1]
                    have u892 := u891.2 _ _ rfl rfl
                    refine hx_ic_ne (l := 132) rfl rfl (fun h893 => ?_) (fun h893 => ?_)
                    · -- 139
                      refine ax_go 1 (y := (141, [some (.ref o), some (.int lv), some (.long vs), none, some (.int z516), some (.long z879), none], [.int z516, .ref o], w869, 0, 0)) rfl trivial ?_
                      refine hx_k (l := 143) (m := 47) rfl rfl (by decide) (fun z894 h895 => ?_)
                      refine hx_pi (l := 146) (as := [.int z894]) rfl rfl rfl (hp_X9_sign (fz := fz) hF (fun q hq => (by decide +kernel : ∀ q ∈ fb_hv_termOf, q ∈ fb_hp_X9_sign) q (hfz q hq)) (d + 4)) hw875 hf878 ⟨(hx_ti (G := G) (lo := 0) (hi := 255) (by omega) (by omega)), trivial⟩ trivial (fun w896 z901 hw897 hf898 m899 a902 b903 u904 => ?_)
                      rw [u904.1]
                      have u905 := u904.2 _ _ rfl rfl
                      refine hx_ic_ne (l := 149) rfl rfl (fun h906 => ?_) (fun h906 => ?_)
                      · -- 156
                        refine ax_go 2 (y := (159, [some (.ref o), some (.int lv), some (.long vs), none, some (.int z516), some (.long z879), none], [.long z879, .long vs, .ref o], w869, 0, 0)) rfl trivial ?_
                        refine hx_ldv (l := 160) rfl (by simp) rfl (by omega) (fun z907 => ?_)
                        refine ax_go 1 (y := (161, [some (.ref o), some (.int lv), some (.long vs), none, some (.int z516), some (.long z879), none], [.int lv, .long z907, .ref o], w869, 0, 0)) rfl trivial ?_
                        refine hx_cj (l := 164) (as := [.ref o, .long z907, .int lv]) rfl rfl (hx_iv (j := 174) (n := 2) (o := o) (r := []) rfl rfl g871 rfl) (h_X9_bounded (fz := ([(32, 999), (30, 2), (30, 22), (30, 23), (30, 25)] ++ fz)) hF (hx_app (by decide +kernel) (fun q hq => (by decide +kernel : ∀ q ∈ fb_hv_termOf, q ∈ fb_X9_bounded) q (hfz q hq))) (d + 4)) hw875 hf878 ⟨(hx_tr (G := G) (s := 30) (b := 0) hG0 (by decide)), (ck_ltop_ok (G := G) z907), (hx_ti (G := G) (lo := 0) (hi := 1) (by omega) (by omega)), trivial⟩ (fun w908 z913 hw909 hf910 m911 => ?_)
                        have hs912 := ty_same_tr hs877 (hx_sapp m911)
                        obtain ⟨fs917, g918, -, q919⟩ := hx_obj hw909 hG0 (s := 30) rfl (by decide)
                        refine ax_go 2 (y := (6, [some (.ref o), some (.int lv), some (.long z913), none, some (.int z516), some (.long z879), none], [], w908, 0, 0)) rfl trivial ?_
                        exact ih6 w908 z913 (some z516) (some z879) gN544 m1 hw909 hf910 hs912 ⟨_, g918, ((hx_kf m911 (hx_mem hG0 (by decide)) g871 g918).trans ((o873 22 (by decide)).trans iB549))⟩ ⟨_, g918, ((hx_kf m911 (hx_mem hG0 (by decide)) g871 g918).trans ((o873 2 (by decide)).trans iA548))⟩ ⟨_, g918, ((hx_kf m911 (hx_mem hG0 (by decide)) g871 g918).trans ((o873 23 (by decide)).trans iC550))⟩ ⟨_, g918, ((hx_kf m911 (hx_mem hG0 (by decide)) g871 g918).trans ((o873 25 (by decide)).trans iD551))⟩ ((hx_kr m911 (hx_mem hG_pk (by decide))).trans ((n874 _ (hx_ne hG_pk hG0 (by decide))).trans gK552)) (by rw [show gN544.toInt.toNat = y1 by omega]; exact hz2) (by omega) (by omega) (by omega) (by omega)
                      · -- 149
                        refine ax_go 2 (y := (152, [some (.ref o), some (.int lv), some (.long vs), none, some (.int z516), some (.long z879), none], [.long z879, .long vs, .ref o], w869, 0, 0)) rfl trivial ?_
                        refine hx_ldv (l := 153) rfl (by simp) rfl (by omega) (fun z920 => ?_)
                        refine ax_go 2 (y := (161, [some (.ref o), some (.int lv), some (.long vs), none, some (.int z516), some (.long z879), none], [.int lv, .long z920, .ref o], w869, 0, 0)) rfl trivial ?_
                        refine hx_cj (l := 164) (as := [.ref o, .long z920, .int lv]) rfl rfl (hx_iv (j := 174) (n := 2) (o := o) (r := []) rfl rfl g871 rfl) (h_X9_bounded (fz := ([(32, 999), (30, 2), (30, 22), (30, 23), (30, 25)] ++ fz)) hF (hx_app (by decide +kernel) (fun q hq => (by decide +kernel : ∀ q ∈ fb_hv_termOf, q ∈ fb_X9_bounded) q (hfz q hq))) (d + 4)) hw875 hf878 ⟨(hx_tr (G := G) (s := 30) (b := 0) hG0 (by decide)), (ck_ltop_ok (G := G) z920), (hx_ti (G := G) (lo := 0) (hi := 1) (by omega) (by omega)), trivial⟩ (fun w921 z926 hw922 hf923 m924 => ?_)
                        have hs925 := ty_same_tr hs877 (hx_sapp m924)
                        obtain ⟨fs930, g931, -, q932⟩ := hx_obj hw922 hG0 (s := 30) rfl (by decide)
                        refine ax_go 2 (y := (6, [some (.ref o), some (.int lv), some (.long z926), none, some (.int z516), some (.long z879), none], [], w921, 0, 0)) rfl trivial ?_
                        exact ih6 w921 z926 (some z516) (some z879) gN544 m1 hw922 hf923 hs925 ⟨_, g931, ((hx_kf m924 (hx_mem hG0 (by decide)) g871 g931).trans ((o873 22 (by decide)).trans iB549))⟩ ⟨_, g931, ((hx_kf m924 (hx_mem hG0 (by decide)) g871 g931).trans ((o873 2 (by decide)).trans iA548))⟩ ⟨_, g931, ((hx_kf m924 (hx_mem hG0 (by decide)) g871 g931).trans ((o873 23 (by decide)).trans iC550))⟩ ⟨_, g931, ((hx_kf m924 (hx_mem hG0 (by decide)) g871 g931).trans ((o873 25 (by decide)).trans iD551))⟩ ((hx_kr m924 (hx_mem hG_pk (by decide))).trans ((n874 _ (hx_ne hG_pk hG0 (by decide))).trans gK552)) (by rw [show gN544.toInt.toNat = y1 by omega]; exact hz2) (by omega) (by omega) (by omega) (by omega)
                    · -- 132
                      refine ax_go 2 (y := (135, [some (.ref o), some (.int lv), some (.long vs), none, some (.int z516), some (.long z879), none], [.long z879, .long vs, .ref o], w869, 0, 0)) rfl trivial ?_
                      refine hx_anyl (l := 136) rfl rfl (fun z933 => ?_)
                      refine ax_go 2 (y := (161, [some (.ref o), some (.int lv), some (.long vs), none, some (.int z516), some (.long z879), none], [.int lv, .long z933, .ref o], w869, 0, 0)) rfl trivial ?_
                      refine hx_cj (l := 164) (as := [.ref o, .long z933, .int lv]) rfl rfl (hx_iv (j := 174) (n := 2) (o := o) (r := []) rfl rfl g871 rfl) (h_X9_bounded (fz := ([(32, 999), (30, 2), (30, 22), (30, 23), (30, 25)] ++ fz)) hF (hx_app (by decide +kernel) (fun q hq => (by decide +kernel : ∀ q ∈ fb_hv_termOf, q ∈ fb_X9_bounded) q (hfz q hq))) (d + 4)) hw875 hf878 ⟨(hx_tr (G := G) (s := 30) (b := 0) hG0 (by decide)), (ck_ltop_ok (G := G) z933), (hx_ti (G := G) (lo := 0) (hi := 1) (by omega) (by omega)), trivial⟩ (fun w934 z939 hw935 hf936 m937 => ?_)
                      have hs938 := ty_same_tr hs877 (hx_sapp m937)
                      obtain ⟨fs943, g944, -, q945⟩ := hx_obj hw935 hG0 (s := 30) rfl (by decide)
                      refine ax_go 2 (y := (6, [some (.ref o), some (.int lv), some (.long z939), none, some (.int z516), some (.long z879), none], [], w934, 0, 0)) rfl trivial ?_
                      exact ih6 w934 z939 (some z516) (some z879) gN544 m1 hw935 hf936 hs938 ⟨_, g944, ((hx_kf m937 (hx_mem hG0 (by decide)) g871 g944).trans ((o873 22 (by decide)).trans iB549))⟩ ⟨_, g944, ((hx_kf m937 (hx_mem hG0 (by decide)) g871 g944).trans ((o873 2 (by decide)).trans iA548))⟩ ⟨_, g944, ((hx_kf m937 (hx_mem hG0 (by decide)) g871 g944).trans ((o873 23 (by decide)).trans iC550))⟩ ⟨_, g944, ((hx_kf m937 (hx_mem hG0 (by decide)) g871 g944).trans ((o873 25 (by decide)).trans iD551))⟩ ((hx_kr m937 (hx_mem hG_pk (by decide))).trans ((n874 _ (hx_ne hG_pk hG0 (by decide))).trans gK552)) (by rw [show gN544.toInt.toNat = y1 by omega]; exact hz2) (by omega) (by omega) (by omega) (by omega)
          · -- 38
            refine ax_go 2 (y := (40, [some (.ref o), some (.int lv), some (.long vs), none, (u4.map Value.int), (u5.map Value.long), none], [.ref o, .ref o], w1, 0, 0)) rfl trivial ?_
            refine hx_gf (l := 43) rfl rfl rfl g14 e15 ?_
            refine hx_pi (l := 46) (as := [.ref o, .int gq]) rfl rfl (hx_iv (j := 172) (n := 1) (o := o) (r := []) rfl rfl g14 rfl) (hp_X9_codeAt (fz := fz) hF (fun q hq => (by decide +kernel : ∀ q ∈ fb_hv_termOf, q ∈ fb_hp_X9_codeAt) q (hfz q hq)) (d + 4)) hw10 hf11 ⟨(hx_tr (G := G) (s := 30) (b := 0) hG0 (by decide)), (ck_top_ok (G := G) gq), trivial⟩ (fun y0 y1 y2 h1 h2 => by cases h1; obtain ⟨fs1, g1, e1⟩ := h2; obtain rfl := hx_inj g14 g1; obtain rfl := hx_inji e26 e1; exact ⟨by omega, by omega⟩) (fun w946 z951 hw947 hf948 m949 a952 b953 u954 => ?_)
            rw [u954.1]
            have u955 := u954.2 _ _ _ _ _ _ rfl ⟨_, g14, e23⟩ g6 ⟨_, g14, e26⟩ rfl
            clear u954
            refine hx_k (l := 48) (m := 37) rfl rfl (by decide) (fun z956 h957 => ?_)
            refine hx_pi (l := 51) (as := [.int z956]) rfl rfl rfl (hp_X9_sign (fz := fz) hF (fun q hq => (by decide +kernel : ∀ q ∈ fb_hv_termOf, q ∈ fb_hp_X9_sign) q (hfz q hq)) (d + 4)) hw10 hf11 ⟨(hx_ti (G := G) (lo := 0) (hi := 255) (by omega) (by omega)), trivial⟩ trivial (fun w958 z963 hw959 hf960 m961 a964 b965 u966 => ?_)
            rw [u966.1]
            have u967 := u966.2 _ _ rfl rfl
            refine hx_ic_ne (l := 54) rfl rfl (fun h968 => ?_) (fun h968 => ?_)
            · -- 168
              have hend := ((gr_tl hgq).resolve_left (fun zz => absurd zz.1 (by omega))).2
              refine ax_go 1 (y := (169, [some (.ref o), some (.int lv), some (.long vs), none, (u4.map Value.int), (u5.map Value.long), none], [.long vs], w1, 0, 0)) rfl trivial ?_
              exact ax_ret rfl rfl trivial ⟨some (.long vs), _, rfl, hw10, hf11, hs12, (ck_ltop_ok (G := G) vs), (fun o1 l1 h1 => by cases h1; exact ⟨gq, by omega, ⟨_, g14, e23, e15, e26, e29, g6⟩⟩)⟩
            · -- 54
              obtain ⟨m1, y1, hm1, hz1, hz2⟩ := ((gr_tl hgq).resolve_right (fun zz => zz.1 (by omega))).2
              have lt1 := gc_lt (c := cf f) (e := e.toInt.toNat) (p := gq.toInt.toNat) (by omega)
              refine ax_go 2 (y := (56, [some (.ref o), some (.int lv), some (.long vs), none, (u4.map Value.int), (u5.map Value.long), none], [.ref o, .ref o], w1, 0, 0)) rfl trivial ?_
              refine hx_gf (l := 59) rfl rfl rfl g14 e15 ?_
              refine hx_pi (l := 62) (as := [.ref o, .int gq]) rfl rfl (hx_iv (j := 172) (n := 1) (o := o) (r := []) rfl rfl g14 rfl) (hp_X9_codeAt (fz := fz) hF (fun q hq => (by decide +kernel : ∀ q ∈ fb_hv_termOf, q ∈ fb_hp_X9_codeAt) q (hfz q hq)) (d + 4)) hw10 hf11 ⟨(hx_tr (G := G) (s := 30) (b := 0) hG0 (by decide)), (ck_top_ok (G := G) gq), trivial⟩ (fun y0 y1 y2 h1 h2 => by cases h1; obtain ⟨fs1, g1, e1⟩ := h2; obtain rfl := hx_inj g14 g1; obtain rfl := hx_inji e26 e1; exact ⟨by omega, by omega⟩) (fun w969 z974 hw970 hf971 m972 a975 b976 u977 => ?_)
              rw [u977.1]
              have u978 := u977.2 _ _ _ _ _ _ rfl ⟨_, g14, e23⟩ g6 ⟨_, g14, e26⟩ rfl
              clear u977
              refine ax_go 3 (y := (66, [some (.ref o), some (.int lv), some (.long vs), none, some (.int z974), (u5.map Value.long), none], [.ref o, .ref o], w1, 0, 0)) rfl trivial ?_
              refine hx_gf (l := 69) rfl rfl rfl g14 e15 ?_
              refine hx_k (l := 70) (m := 1) rfl rfl (by decide) (fun z979 h980 => ?_)
              refine hx_add (l := 71) rfl rfl (fun z981 h982 => ?_)
              replace h982 := h982 (by omega) (by omega)
              refine hx_pf (q := (0, 0, 0, 0, (-2147483648), 2147483647)) (s := 30) (l := 74) (v := .int z981) rfl rfl rfl (by decide) rfl rfl rfl hw10 hG0 g14 trivial (ck_top_ok (G := G) z981) (fun w983 fs984 g985 e986 o987 n988 hw989 n990 => ?_)
              have hs991 := ty_same_tr hs12 (n990 fz (hx_ok hfz (by decide)))
              have hf992 := hFF _ _ (n990 pr_ (by decide)) hf11
              refine ax_go 2 (y := (76, [some (.ref o), some (.int lv), some (.long vs), none, some (.int z974), (u5.map Value.long), none], [.int lv, .ref o], w983, 0, 0)) rfl trivial ?_
              refine hx_pj (l := 79) (as := [.ref o, .int lv]) rfl rfl (hx_iv (j := 177) (n := 1) (o := o) (r := []) rfl rfl g985 rfl) (ihpartOf m1 (by omega) b pk f e io z981 y1 (d + 5) he ⟨by omega, by omega⟩ (by rw [show z981.toInt.toNat = gq.toInt.toNat + 1 by omega]; exact hz1) (by omega)) hw989 hf992 ⟨(hx_tr (G := G) (s := 30) (b := 0) hG0 (by decide)), (hx_ti (G := G) (lo := 0) (hi := 1) (by omega) (by omega)), trivial⟩ (fun o1 l1 h1 => by cases h1; exact ⟨_, g985, ((o987 2 (by decide)).trans e23), e986, ((o987 23 (by decide)).trans e26), ((o987 25 (by decide)).trans e29), ((n988 _ (hx_ne hG_pk hG0 (by decide))).trans g6)⟩) (fun w993 z998 hw994 hf995 m996 a999 b1000 u1001 => ?_)
              have hs997 := ty_same_tr hs991 m996
              obtain ⟨gN1002, hN1003, fsN1004, gA1005, iA1006, iB1007, iC1008, iD1009, gK1010⟩ := u1001 _ _ rfl
              have le1011 := gr_le hz1 (by omega)
              refine ax_go 2 (y := (83, [some (.ref o), some (.int lv), some (.long vs), none, some (.int z974), some (.long z998), none], [.int z974], w993, 0, 0)) rfl trivial ?_
              refine hx_k (l := 85) (m := 42) rfl rfl (by decide) (fun z1012 h1013 => ?_)
              refine hx_pi (l := 88) (as := [.int z1012]) rfl rfl rfl (hp_X9_sign (fz := fz) hF (fun q hq => (by decide +kernel : ∀ q ∈ fb_hv_termOf, q ∈ fb_hp_X9_sign) q (hfz q hq)) (d + 4)) hw994 hf995 ⟨(hx_ti (G := G) (lo := 0) (hi := 255) (by omega) (by omega)), trivial⟩ trivial (fun w1014 z1019 hw1015 hf1016 m1017 a1020 b1021 u1022 => ?_)
              rw [u1022.1]
              have u1023 := u1022.2 _ _ rfl rfl
              refine hx_ic_eq (l := 91) rfl rfl (fun h1024 => ?_) (fun h1024 => ?_)
              · -- 121
                refine ax_go 2 (y := (124, [some (.ref o), some (.int lv), some (.long vs), none, some (.int z974), some (.long z998), none], [.int z974, .ref o], w993, 0, 0)) rfl trivial ?_
                refine hx_k (l := 126) (m := 42) rfl rfl (by decide) (fun z1025 h1026 => ?_)
                refine hx_pi (l := 129) (as := [.int z1025]) rfl rfl rfl (hp_X9_sign (fz := fz) hF (fun q hq => (by decide +kernel : ∀ q ∈ fb_hv_termOf, q ∈ fb_hp_X9_sign) q (hfz q hq)) (d + 4)) hw994 hf995 ⟨(hx_ti (G := G) (lo := 0) (hi := 255) (by omega) (by omega)), trivial⟩ trivial (fun w1027 z1032 hw1028 hf1029 m1030 a1033 b1034 u1035 => ?_)
                rw [u1035.1]
                have u1036 := u1035.2 _ _ rfl rfl
                refine hx_ic_ne (l := 132) rfl rfl (fun h1037 => ?_) (fun h1037 => ?_)
                · -- 139
                  refine ax_go 1 (y := (141, [some (.ref o), some (.int lv), some (.long vs), none, some (.int z974), some (.long z998), none], [.int z974, .ref o], w993, 0, 0)) rfl trivial ?_
                  refine hx_k (l := 143) (m := 47) rfl rfl (by decide) (fun z1038 h1039 => ?_)
                  refine hx_pi (l := 146) (as := [.int z1038]) rfl rfl rfl (hp_X9_sign (fz := fz) hF (fun q hq => (by decide +kernel : ∀ q ∈ fb_hv_termOf, q ∈ fb_hp_X9_sign) q (hfz q hq)) (d + 4)) hw994 hf995 ⟨(hx_ti (G := G) (lo := 0) (hi := 255) (by omega) (by omega)), trivial⟩ trivial (fun w1040 z1045 hw1041 hf1042 m1043 a1046 b1047 u1048 => ?_)
                  rw [u1048.1]
                  have u1049 := u1048.2 _ _ rfl rfl
                  refine hx_ic_ne (l := 149) rfl rfl (fun h1050 => ?_) (fun h1050 => ?_)
                  · -- 156
                    refine ax_go 2 (y := (159, [some (.ref o), some (.int lv), some (.long vs), none, some (.int z974), some (.long z998), none], [.long z998, .long vs, .ref o], w993, 0, 0)) rfl trivial ?_
                    refine hx_ldv (l := 160) rfl (by simp) rfl (by omega) (fun z1051 => ?_)
                    refine ax_go 1 (y := (161, [some (.ref o), some (.int lv), some (.long vs), none, some (.int z974), some (.long z998), none], [.int lv, .long z1051, .ref o], w993, 0, 0)) rfl trivial ?_
                    refine hx_cj (l := 164) (as := [.ref o, .long z1051, .int lv]) rfl rfl (hx_iv (j := 174) (n := 2) (o := o) (r := []) rfl rfl gA1005 rfl) (h_X9_bounded (fz := ([(32, 999), (30, 2), (30, 22), (30, 23), (30, 25)] ++ fz)) hF (hx_app (by decide +kernel) (fun q hq => (by decide +kernel : ∀ q ∈ fb_hv_termOf, q ∈ fb_X9_bounded) q (hfz q hq))) (d + 4)) hw994 hf995 ⟨(hx_tr (G := G) (s := 30) (b := 0) hG0 (by decide)), (ck_ltop_ok (G := G) z1051), (hx_ti (G := G) (lo := 0) (hi := 1) (by omega) (by omega)), trivial⟩ (fun w1052 z1057 hw1053 hf1054 m1055 => ?_)
                    have hs1056 := ty_same_tr hs997 (hx_sapp m1055)
                    obtain ⟨fs1061, g1062, -, q1063⟩ := hx_obj hw1053 hG0 (s := 30) rfl (by decide)
                    refine ax_go 2 (y := (6, [some (.ref o), some (.int lv), some (.long z1057), none, some (.int z974), some (.long z998), none], [], w1052, 0, 0)) rfl trivial ?_
                    exact ih6 w1052 z1057 (some z974) (some z998) gN1002 m1 hw1053 hf1054 hs1056 ⟨_, g1062, ((hx_kf m1055 (hx_mem hG0 (by decide)) gA1005 g1062).trans iB1007)⟩ ⟨_, g1062, ((hx_kf m1055 (hx_mem hG0 (by decide)) gA1005 g1062).trans iA1006)⟩ ⟨_, g1062, ((hx_kf m1055 (hx_mem hG0 (by decide)) gA1005 g1062).trans iC1008)⟩ ⟨_, g1062, ((hx_kf m1055 (hx_mem hG0 (by decide)) gA1005 g1062).trans iD1009)⟩ ((hx_kr m1055 (hx_mem hG_pk (by decide))).trans gK1010) (by rw [show gN1002.toInt.toNat = y1 by omega]; exact hz2) (by omega) (by omega) (by omega) (by omega)
                  · -- 149
                    refine ax_go 2 (y := (152, [some (.ref o), some (.int lv), some (.long vs), none, some (.int z974), some (.long z998), none], [.long z998, .long vs, .ref o], w993, 0, 0)) rfl trivial ?_
                    refine hx_ldv (l := 153) rfl (by simp) rfl (by omega) (fun z1064 => ?_)
                    refine ax_go 2 (y := (161, [some (.ref o), some (.int lv), some (.long vs), none, some (.int z974), some (.long z998), none], [.int lv, .long z1064, .ref o], w993, 0, 0)) rfl trivial ?_
                    refine hx_cj (l := 164) (as := [.ref o, .long z1064, .int lv]) rfl rfl (hx_iv (j := 174) (n := 2) (o := o) (r := []) rfl rfl gA1005 rfl) (h_X9_bounded (fz := ([(32, 999), (30, 2), (30, 22), (30, 23), (30, 25)] ++ fz)) hF (hx_app (by decide +kernel) (fun q hq => (by decide +kernel : ∀ q ∈ fb_hv_termOf, q ∈ fb_X9_bounded) q (hfz q hq))) (d + 4)) hw994 hf995 ⟨(hx_tr (G := G) (s := 30) (b := 0) hG0 (by decide)), (ck_ltop_ok (G := G) z1064), (hx_ti (G := G) (lo := 0) (hi := 1) (by omega) (by omega)), trivial⟩ (fun w1065 z1070 hw1066 hf1067 m1068 => ?_)
                    have hs1069 := ty_same_tr hs997 (hx_sapp m1068)
                    obtain ⟨fs1074, g1075, -, q1076⟩ := hx_obj hw1066 hG0 (s := 30) rfl (by decide)
                    refine ax_go 2 (y := (6, [some (.ref o), some (.int lv), some (.long z1070), none, some (.int z974), some (.long z998), none], [], w1065, 0, 0)) rfl trivial ?_
                    exact ih6 w1065 z1070 (some z974) (some z998) gN1002 m1 hw1066 hf1067 hs1069 ⟨_, g1075, ((hx_kf m1068 (hx_mem hG0 (by decide)) gA1005 g1075).trans iB1007)⟩ ⟨_, g1075, ((hx_kf m1068 (hx_mem hG0 (by decide)) gA1005 g1075).trans iA1006)⟩ ⟨_, g1075, ((hx_kf m1068 (hx_mem hG0 (by decide)) gA1005 g1075).trans iC1008)⟩ ⟨_, g1075, ((hx_kf m1068 (hx_mem hG0 (by decide)) gA1005 g1075).trans iD1009)⟩ ((hx_kr m1068 (hx_mem hG_pk (by decide))).trans gK1010) (by rw [show gN1002.toInt.toNat = y1 by omega]; exact hz2) (by omega) (by omega) (by omega) (by omega)
                · -- 132
                  refine ax_go 2 (y := (135, [some (.ref o), some (.int lv), some (.long vs), none, some (.int z974), some (.long z998), none], [.long z998, .long vs, .ref o], w993, 0, 0)) rfl trivial ?_
                  refine hx_anyl (l := 136) rfl rfl (fun z1077 => ?_)
                  refine ax_go 2 (y := (161, [some (.ref o), some (.int lv), some (.long vs), none, some (.int z974), some (.long z998), none], [.int lv, .long z1077, .ref o], w993, 0, 0)) rfl trivial ?_
                  refine hx_cj (l := 164) (as := [.ref o, .long z1077, .int lv]) rfl rfl (hx_iv (j := 174) (n := 2) (o := o) (r := []) rfl rfl gA1005 rfl) (h_X9_bounded (fz := ([(32, 999), (30, 2), (30, 22), (30, 23), (30, 25)] ++ fz)) hF (hx_app (by decide +kernel) (fun q hq => (by decide +kernel : ∀ q ∈ fb_hv_termOf, q ∈ fb_X9_bounded) q (hfz q hq))) (d + 4)) hw994 hf995 ⟨(hx_tr (G := G) (s := 30) (b := 0) hG0 (by decide)), (ck_ltop_ok (G := G) z1077), (hx_ti (G := G) (lo := 0) (hi := 1) (by omega) (by omega)), trivial⟩ (fun w1078 z1083 hw1079 hf1080 m1081 => ?_)
                  have hs1082 := ty_same_tr hs997 (hx_sapp m1081)
                  obtain ⟨fs1087, g1088, -, q1089⟩ := hx_obj hw1079 hG0 (s := 30) rfl (by decide)
                  refine ax_go 2 (y := (6, [some (.ref o), some (.int lv), some (.long z1083), none, some (.int z974), some (.long z998), none], [], w1078, 0, 0)) rfl trivial ?_
                  exact ih6 w1078 z1083 (some z974) (some z998) gN1002 m1 hw1079 hf1080 hs1082 ⟨_, g1088, ((hx_kf m1081 (hx_mem hG0 (by decide)) gA1005 g1088).trans iB1007)⟩ ⟨_, g1088, ((hx_kf m1081 (hx_mem hG0 (by decide)) gA1005 g1088).trans iA1006)⟩ ⟨_, g1088, ((hx_kf m1081 (hx_mem hG0 (by decide)) gA1005 g1088).trans iC1008)⟩ ⟨_, g1088, ((hx_kf m1081 (hx_mem hG0 (by decide)) gA1005 g1088).trans iD1009)⟩ ((hx_kr m1081 (hx_mem hG_pk (by decide))).trans gK1010) (by rw [show gN1002.toInt.toNat = y1 by omega]; exact hz2) (by omega) (by omega) (by omega) (by omega)
              · -- 91
                refine ax_go 1 (y := (93, [some (.ref o), some (.int lv), some (.long vs), none, some (.int z974), some (.long z998), none], [.long z998], w993, 0, 0)) rfl trivial ?_
                refine hx_lk (l := 94) (m := 0) rfl rfl (by decide) (fun z1090 h1091 => ?_)
                refine hx_lcmp (l := 95) rfl rfl (fun z1092 h1093 => ?_)
                refine hx_if_ne (l := 98) rfl rfl (fun h1094 => ?_) (fun h1094 => ?_)
                · -- 121
                  refine ax_go 2 (y := (124, [some (.ref o), some (.int lv), some (.long vs), none, some (.int z974), some (.long z998), none], [.int z974, .ref o], w993, 0, 0)) rfl trivial ?_
                  refine hx_k (l := 126) (m := 42) rfl rfl (by decide) (fun z1095 h1096 => ?_)
                  refine hx_pi (l := 129) (as := [.int z1095]) rfl rfl rfl (hp_X9_sign (fz := fz) hF (fun q hq => (by decide +kernel : ∀ q ∈ fb_hv_termOf, q ∈ fb_hp_X9_sign) q (hfz q hq)) (d + 4)) hw994 hf995 ⟨(hx_ti (G := G) (lo := 0) (hi := 255) (by omega) (by omega)), trivial⟩ trivial (fun w1097 z1102 hw1098 hf1099 m1100 a1103 b1104 u1105 => ?_)
                  rw [u1105.1]
                  have u1106 := u1105.2 _ _ rfl rfl
                  refine hx_ic_ne (l := 132) rfl rfl (fun h1107 => ?_) (fun h1107 => ?_)
                  · -- 139
                    refine ax_go 1 (y := (141, [some (.ref o), some (.int lv), some (.long vs), none, some (.int z974), some (.long z998), none], [.int z974, .ref o], w993, 0, 0)) rfl trivial ?_
                    refine hx_k (l := 143) (m := 47) rfl rfl (by decide) (fun z1108 h1109 => ?_)
                    refine hx_pi (l := 146) (as := [.int z1108]) rfl rfl rfl (hp_X9_sign (fz := fz) hF (fun q hq => (by decide +kernel : ∀ q ∈ fb_hv_termOf, q ∈ fb_hp_X9_sign) q (hfz q hq)) (d + 4)) hw994 hf995 ⟨(hx_ti (G := G) (lo := 0) (hi := 255) (by omega) (by omega)), trivial⟩ trivial (fun w1110 z1115 hw1111 hf1112 m1113 a1116 b1117 u1118 => ?_)
                    rw [u1118.1]
                    have u1119 := u1118.2 _ _ rfl rfl
                    refine hx_ic_ne (l := 149) rfl rfl (fun h1120 => ?_) (fun h1120 => ?_)
                    · -- 156
                      refine ax_go 2 (y := (159, [some (.ref o), some (.int lv), some (.long vs), none, some (.int z974), some (.long z998), none], [.long z998, .long vs, .ref o], w993, 0, 0)) rfl trivial ?_
                      refine hx_ldv (l := 160) rfl (by simp) rfl (by omega) (fun z1121 => ?_)
                      refine ax_go 1 (y := (161, [some (.ref o), some (.int lv), some (.long vs), none, some (.int z974), some (.long z998), none], [.int lv, .long z1121, .ref o], w993, 0, 0)) rfl trivial ?_
                      refine hx_cj (l := 164) (as := [.ref o, .long z1121, .int lv]) rfl rfl (hx_iv (j := 174) (n := 2) (o := o) (r := []) rfl rfl gA1005 rfl) (h_X9_bounded (fz := ([(32, 999), (30, 2), (30, 22), (30, 23), (30, 25)] ++ fz)) hF (hx_app (by decide +kernel) (fun q hq => (by decide +kernel : ∀ q ∈ fb_hv_termOf, q ∈ fb_X9_bounded) q (hfz q hq))) (d + 4)) hw994 hf995 ⟨(hx_tr (G := G) (s := 30) (b := 0) hG0 (by decide)), (ck_ltop_ok (G := G) z1121), (hx_ti (G := G) (lo := 0) (hi := 1) (by omega) (by omega)), trivial⟩ (fun w1122 z1127 hw1123 hf1124 m1125 => ?_)
                      have hs1126 := ty_same_tr hs997 (hx_sapp m1125)
                      obtain ⟨fs1131, g1132, -, q1133⟩ := hx_obj hw1123 hG0 (s := 30) rfl (by decide)
                      refine ax_go 2 (y := (6, [some (.ref o), some (.int lv), some (.long z1127), none, some (.int z974), some (.long z998), none], [], w1122, 0, 0)) rfl trivial ?_
                      exact ih6 w1122 z1127 (some z974) (some z998) gN1002 m1 hw1123 hf1124 hs1126 ⟨_, g1132, ((hx_kf m1125 (hx_mem hG0 (by decide)) gA1005 g1132).trans iB1007)⟩ ⟨_, g1132, ((hx_kf m1125 (hx_mem hG0 (by decide)) gA1005 g1132).trans iA1006)⟩ ⟨_, g1132, ((hx_kf m1125 (hx_mem hG0 (by decide)) gA1005 g1132).trans iC1008)⟩ ⟨_, g1132, ((hx_kf m1125 (hx_mem hG0 (by decide)) gA1005 g1132).trans iD1009)⟩ ((hx_kr m1125 (hx_mem hG_pk (by decide))).trans gK1010) (by rw [show gN1002.toInt.toNat = y1 by omega]; exact hz2) (by omega) (by omega) (by omega) (by omega)
                    · -- 149
                      refine ax_go 2 (y := (152, [some (.ref o), some (.int lv), some (.long vs), none, some (.int z974), some (.long z998), none], [.long z998, .long vs, .ref o], w993, 0, 0)) rfl trivial ?_
                      refine hx_ldv (l := 153) rfl (by simp) rfl (by omega) (fun z1134 => ?_)
                      refine ax_go 2 (y := (161, [some (.ref o), some (.int lv), some (.long vs), none, some (.int z974), some (.long z998), none], [.int lv, .long z1134, .ref o], w993, 0, 0)) rfl trivial ?_
                      refine hx_cj (l := 164) (as := [.ref o, .long z1134, .int lv]) rfl rfl (hx_iv (j := 174) (n := 2) (o := o) (r := []) rfl rfl gA1005 rfl) (h_X9_bounded (fz := ([(32, 999), (30, 2), (30, 22), (30, 23), (30, 25)] ++ fz)) hF (hx_app (by decide +kernel) (fun q hq => (by decide +kernel : ∀ q ∈ fb_hv_termOf, q ∈ fb_X9_bounded) q (hfz q hq))) (d + 4)) hw994 hf995 ⟨(hx_tr (G := G) (s := 30) (b := 0) hG0 (by decide)), (ck_ltop_ok (G := G) z1134), (hx_ti (G := G) (lo := 0) (hi := 1) (by omega) (by omega)), trivial⟩ (fun w1135 z1140 hw1136 hf1137 m1138 => ?_)
                      have hs1139 := ty_same_tr hs997 (hx_sapp m1138)
                      obtain ⟨fs1144, g1145, -, q1146⟩ := hx_obj hw1136 hG0 (s := 30) rfl (by decide)
                      refine ax_go 2 (y := (6, [some (.ref o), some (.int lv), some (.long z1140), none, some (.int z974), some (.long z998), none], [], w1135, 0, 0)) rfl trivial ?_
                      exact ih6 w1135 z1140 (some z974) (some z998) gN1002 m1 hw1136 hf1137 hs1139 ⟨_, g1145, ((hx_kf m1138 (hx_mem hG0 (by decide)) gA1005 g1145).trans iB1007)⟩ ⟨_, g1145, ((hx_kf m1138 (hx_mem hG0 (by decide)) gA1005 g1145).trans iA1006)⟩ ⟨_, g1145, ((hx_kf m1138 (hx_mem hG0 (by decide)) gA1005 g1145).trans iC1008)⟩ ⟨_, g1145, ((hx_kf m1138 (hx_mem hG0 (by decide)) gA1005 g1145).trans iD1009)⟩ ((hx_kr m1138 (hx_mem hG_pk (by decide))).trans gK1010) (by rw [show gN1002.toInt.toNat = y1 by omega]; exact hz2) (by omega) (by omega) (by omega) (by omega)
                  · -- 132
                    refine ax_go 2 (y := (135, [some (.ref o), some (.int lv), some (.long vs), none, some (.int z974), some (.long z998), none], [.long z998, .long vs, .ref o], w993, 0, 0)) rfl trivial ?_
                    refine hx_anyl (l := 136) rfl rfl (fun z1147 => ?_)
                    refine ax_go 2 (y := (161, [some (.ref o), some (.int lv), some (.long vs), none, some (.int z974), some (.long z998), none], [.int lv, .long z1147, .ref o], w993, 0, 0)) rfl trivial ?_
                    refine hx_cj (l := 164) (as := [.ref o, .long z1147, .int lv]) rfl rfl (hx_iv (j := 174) (n := 2) (o := o) (r := []) rfl rfl gA1005 rfl) (h_X9_bounded (fz := ([(32, 999), (30, 2), (30, 22), (30, 23), (30, 25)] ++ fz)) hF (hx_app (by decide +kernel) (fun q hq => (by decide +kernel : ∀ q ∈ fb_hv_termOf, q ∈ fb_X9_bounded) q (hfz q hq))) (d + 4)) hw994 hf995 ⟨(hx_tr (G := G) (s := 30) (b := 0) hG0 (by decide)), (ck_ltop_ok (G := G) z1147), (hx_ti (G := G) (lo := 0) (hi := 1) (by omega) (by omega)), trivial⟩ (fun w1148 z1153 hw1149 hf1150 m1151 => ?_)
                    have hs1152 := ty_same_tr hs997 (hx_sapp m1151)
                    obtain ⟨fs1157, g1158, -, q1159⟩ := hx_obj hw1149 hG0 (s := 30) rfl (by decide)
                    refine ax_go 2 (y := (6, [some (.ref o), some (.int lv), some (.long z1153), none, some (.int z974), some (.long z998), none], [], w1148, 0, 0)) rfl trivial ?_
                    exact ih6 w1148 z1153 (some z974) (some z998) gN1002 m1 hw1149 hf1150 hs1152 ⟨_, g1158, ((hx_kf m1151 (hx_mem hG0 (by decide)) gA1005 g1158).trans iB1007)⟩ ⟨_, g1158, ((hx_kf m1151 (hx_mem hG0 (by decide)) gA1005 g1158).trans iA1006)⟩ ⟨_, g1158, ((hx_kf m1151 (hx_mem hG0 (by decide)) gA1005 g1158).trans iC1008)⟩ ⟨_, g1158, ((hx_kf m1151 (hx_mem hG0 (by decide)) gA1005 g1158).trans iD1009)⟩ ((hx_kr m1151 (hx_mem hG_pk (by decide))).trans gK1010) (by rw [show gN1002.toInt.toNat = y1 by omega]; exact hz2) (by omega) (by omega) (by omega) (by omega)
                · -- 98
                  refine ax_go 2 (y := (100, [some (.ref o), some (.int lv), some (.long vs), none, some (.int z974), some (.long z998), none], [.ref o, .ref o], w993, 0, 0)) rfl trivial ?_
                  have q1160 := hx_oq hw994 gA1005 hG0 (s := 30) rfl
                  obtain ⟨x1161, e1162, a1163, b1164⟩ := hx_fi (k := 24) (lo := 0) (hi := 1) q1160 rfl
                  refine hx_gf (l := 103) rfl rfl rfl gA1005 e1162 ?_
                  refine hx_if_ne (l := 106) rfl rfl (fun h1165 => ?_) (fun h1165 => ?_)
                  · -- 110
                    refine hx_k (l := 111) (m := 1) rfl rfl (by decide) (fun z1166 h1167 => ?_)
                    refine ax_go 1 (y := (115, [some (.ref o), some (.int lv), some (.long vs), none, some (.int z974), some (.long z998), none], [.int z1166, .ref o], w993, 0, 0)) rfl trivial ?_
                    refine hx_pf (q := (0, 0, 0, 0, 0, 1)) (s := 30) (l := 118) (v := .int z1166) rfl rfl rfl (by decide) rfl rfl rfl hw994 hG0 gA1005 ⟨hx_01 (by omega) (by omega), trivial⟩ (hx_ti (G := G) (lo := 0) (hi := 1) (by omega) (by omega)) (fun w1168 fs1169 g1170 e1171 o1172 n1173 hw1174 n1175 => ?_)
                    have hs1176 := ty_same_tr hs997 (n1175 fz (hx_ok hfz (by decide)))
                    have hf1177 := hFF _ _ (n1175 pr_ (by decide)) hf995
                    refine hx_lk (l := 119) (m := 1) rfl rfl (by decide) (fun z1178 h1179 => ?_)
                    refine ax_go 3 (y := (124, [some (.ref o), some (.int lv), some (.long vs), none, some (.int z974), some (.long z1178), none], [.int z974, .ref o], w1168, 0, 0)) rfl trivial ?_
                    refine hx_k (l := 126) (m := 42) rfl rfl (by decide) (fun z1180 h1181 => ?_)
                    refine hx_pi (l := 129) (as := [.int z1180]) rfl rfl rfl (hp_X9_sign (fz := fz) hF (fun q hq => (by decide +kernel : ∀ q ∈ fb_hv_termOf, q ∈ fb_hp_X9_sign) q (hfz q hq)) (d + 4)) hw1174 hf1177 ⟨(hx_ti (G := G) (lo := 0) (hi := 255) (by omega) (by omega)), trivial⟩ trivial (fun w1182 z1187 hw1183 hf1184 m1185 a1188 b1189 u1190 => ?_)
                    rw [u1190.1]
                    have u1191 := u1190.2 _ _ rfl rfl
                    refine hx_ic_ne (l := 132) rfl rfl (fun h1192 => ?_) (fun h1192 => ?_)
                    · -- 139
                      refine ax_go 1 (y := (141, [some (.ref o), some (.int lv), some (.long vs), none, some (.int z974), some (.long z1178), none], [.int z974, .ref o], w1168, 0, 0)) rfl trivial ?_
                      refine hx_k (l := 143) (m := 47) rfl rfl (by decide) (fun z1193 h1194 => ?_)
                      refine hx_pi (l := 146) (as := [.int z1193]) rfl rfl rfl (hp_X9_sign (fz := fz) hF (fun q hq => (by decide +kernel : ∀ q ∈ fb_hv_termOf, q ∈ fb_hp_X9_sign) q (hfz q hq)) (d + 4)) hw1174 hf1177 ⟨(hx_ti (G := G) (lo := 0) (hi := 255) (by omega) (by omega)), trivial⟩ trivial (fun w1195 z1200 hw1196 hf1197 m1198 a1201 b1202 u1203 => ?_)
                      rw [u1203.1]
                      have u1204 := u1203.2 _ _ rfl rfl
                      refine hx_ic_ne (l := 149) rfl rfl (fun h1205 => ?_) (fun h1205 => ?_)
                      · -- 156
                        refine ax_go 2 (y := (159, [some (.ref o), some (.int lv), some (.long vs), none, some (.int z974), some (.long z1178), none], [.long z1178, .long vs, .ref o], w1168, 0, 0)) rfl trivial ?_
                        refine hx_ldv (l := 160) rfl (by simp) rfl (by omega) (fun z1206 => ?_)
                        refine ax_go 1 (y := (161, [some (.ref o), some (.int lv), some (.long vs), none, some (.int z974), some (.long z1178), none], [.int lv, .long z1206, .ref o], w1168, 0, 0)) rfl trivial ?_
                        refine hx_cj (l := 164) (as := [.ref o, .long z1206, .int lv]) rfl rfl (hx_iv (j := 174) (n := 2) (o := o) (r := []) rfl rfl g1170 rfl) (h_X9_bounded (fz := ([(32, 999), (30, 2), (30, 22), (30, 23), (30, 25)] ++ fz)) hF (hx_app (by decide +kernel) (fun q hq => (by decide +kernel : ∀ q ∈ fb_hv_termOf, q ∈ fb_X9_bounded) q (hfz q hq))) (d + 4)) hw1174 hf1177 ⟨(hx_tr (G := G) (s := 30) (b := 0) hG0 (by decide)), (ck_ltop_ok (G := G) z1206), (hx_ti (G := G) (lo := 0) (hi := 1) (by omega) (by omega)), trivial⟩ (fun w1207 z1212 hw1208 hf1209 m1210 => ?_)
                        have hs1211 := ty_same_tr hs1176 (hx_sapp m1210)
                        obtain ⟨fs1216, g1217, -, q1218⟩ := hx_obj hw1208 hG0 (s := 30) rfl (by decide)
                        refine ax_go 2 (y := (6, [some (.ref o), some (.int lv), some (.long z1212), none, some (.int z974), some (.long z1178), none], [], w1207, 0, 0)) rfl trivial ?_
                        exact ih6 w1207 z1212 (some z974) (some z1178) gN1002 m1 hw1208 hf1209 hs1211 ⟨_, g1217, ((hx_kf m1210 (hx_mem hG0 (by decide)) g1170 g1217).trans ((o1172 22 (by decide)).trans iB1007))⟩ ⟨_, g1217, ((hx_kf m1210 (hx_mem hG0 (by decide)) g1170 g1217).trans ((o1172 2 (by decide)).trans iA1006))⟩ ⟨_, g1217, ((hx_kf m1210 (hx_mem hG0 (by decide)) g1170 g1217).trans ((o1172 23 (by decide)).trans iC1008))⟩ ⟨_, g1217, ((hx_kf m1210 (hx_mem hG0 (by decide)) g1170 g1217).trans ((o1172 25 (by decide)).trans iD1009))⟩ ((hx_kr m1210 (hx_mem hG_pk (by decide))).trans ((n1173 _ (hx_ne hG_pk hG0 (by decide))).trans gK1010)) (by rw [show gN1002.toInt.toNat = y1 by omega]; exact hz2) (by omega) (by omega) (by omega) (by omega)
                      · -- 149
                        refine ax_go 2 (y := (152, [some (.ref o), some (.int lv), some (.long vs), none, some (.int z974), some (.long z1178), none], [.long z1178, .long vs, .ref o], w1168, 0, 0)) rfl trivial ?_
                        refine hx_ldv (l := 153) rfl (by simp) rfl (by omega) (fun z1219 => ?_)
                        refine ax_go 2 (y := (161, [some (.ref o), some (.int lv), some (.long vs), none, some (.int z974), some (.long z1178), none], [.int lv, .long z1219, .ref o], w1168, 0, 0)) rfl trivial ?_
                        refine hx_cj (l := 164) (as := [.ref o, .long z1219, .int lv]) rfl rfl (hx_iv (j := 174) (n := 2) (o := o) (r := []) rfl rfl g1170 rfl) (h_X9_bounded (fz := ([(32, 999), (30, 2), (30, 22), (30, 23), (30, 25)] ++ fz)) hF (hx_app (by decide +kernel) (fun q hq => (by decide +kernel : ∀ q ∈ fb_hv_termOf, q ∈ fb_X9_bounded) q (hfz q hq))) (d + 4)) hw1174 hf1177 ⟨(hx_tr (G := G) (s := 30) (b := 0) hG0 (by decide)), (ck_ltop_ok (G := G) z1219), (hx_ti (G := G) (lo := 0) (hi := 1) (by omega) (by omega)), trivial⟩ (fun w1220 z1225 hw1221 hf1222 m1223 => ?_)
                        have hs1224 := ty_same_tr hs1176 (hx_sapp m1223)
                        obtain ⟨fs1229, g1230, -, q1231⟩ := hx_obj hw1221 hG0 (s := 30) rfl (by decide)
                        refine ax_go 2 (y := (6, [some (.ref o), some (.int lv), some (.long z1225), none, some (.int z974), some (.long z1178), none], [], w1220, 0, 0)) rfl trivial ?_
                        exact ih6 w1220 z1225 (some z974) (some z1178) gN1002 m1 hw1221 hf1222 hs1224 ⟨_, g1230, ((hx_kf m1223 (hx_mem hG0 (by decide)) g1170 g1230).trans ((o1172 22 (by decide)).trans iB1007))⟩ ⟨_, g1230, ((hx_kf m1223 (hx_mem hG0 (by decide)) g1170 g1230).trans ((o1172 2 (by decide)).trans iA1006))⟩ ⟨_, g1230, ((hx_kf m1223 (hx_mem hG0 (by decide)) g1170 g1230).trans ((o1172 23 (by decide)).trans iC1008))⟩ ⟨_, g1230, ((hx_kf m1223 (hx_mem hG0 (by decide)) g1170 g1230).trans ((o1172 25 (by decide)).trans iD1009))⟩ ((hx_kr m1223 (hx_mem hG_pk (by decide))).trans ((n1173 _ (hx_ne hG_pk hG0 (by decide))).trans gK1010)) (by rw [show gN1002.toInt.toNat = y1 by omega]; exact hz2) (by omega) (by omega) (by omega) (by omega)
                    · -- 132
                      refine ax_go 2 (y := (135, [some (.ref o), some (.int lv), some (.long vs), none, some (.int z974), some (.long z1178), none], [.long z1178, .long vs, .ref o], w1168, 0, 0)) rfl trivial ?_
                      refine hx_anyl (l := 136) rfl rfl (fun z1232 => ?_)
                      refine ax_go 2 (y := (161, [some (.ref o), some (.int lv), some (.long vs), none, some (.int z974), some (.long z1178), none], [.int lv, .long z1232, .ref o], w1168, 0, 0)) rfl trivial ?_
                      refine hx_cj (l := 164) (as := [.ref o, .long z1232, .int lv]) rfl rfl (hx_iv (j := 174) (n := 2) (o := o) (r := []) rfl rfl g1170 rfl) (h_X9_bounded (fz := ([(32, 999), (30, 2), (30, 22), (30, 23), (30, 25)] ++ fz)) hF (hx_app (by decide +kernel) (fun q hq => (by decide +kernel : ∀ q ∈ fb_hv_termOf, q ∈ fb_X9_bounded) q (hfz q hq))) (d + 4)) hw1174 hf1177 ⟨(hx_tr (G := G) (s := 30) (b := 0) hG0 (by decide)), (ck_ltop_ok (G := G) z1232), (hx_ti (G := G) (lo := 0) (hi := 1) (by omega) (by omega)), trivial⟩ (fun w1233 z1238 hw1234 hf1235 m1236 => ?_)
                      have hs1237 := ty_same_tr hs1176 (hx_sapp m1236)
                      obtain ⟨fs1242, g1243, -, q1244⟩ := hx_obj hw1234 hG0 (s := 30) rfl (by decide)
                      refine ax_go 2 (y := (6, [some (.ref o), some (.int lv), some (.long z1238), none, some (.int z974), some (.long z1178), none], [], w1233, 0, 0)) rfl trivial ?_
                      exact ih6 w1233 z1238 (some z974) (some z1178) gN1002 m1 hw1234 hf1235 hs1237 ⟨_, g1243, ((hx_kf m1236 (hx_mem hG0 (by decide)) g1170 g1243).trans ((o1172 22 (by decide)).trans iB1007))⟩ ⟨_, g1243, ((hx_kf m1236 (hx_mem hG0 (by decide)) g1170 g1243).trans ((o1172 2 (by decide)).trans iA1006))⟩ ⟨_, g1243, ((hx_kf m1236 (hx_mem hG0 (by decide)) g1170 g1243).trans ((o1172 23 (by decide)).trans iC1008))⟩ ⟨_, g1243, ((hx_kf m1236 (hx_mem hG0 (by decide)) g1170 g1243).trans ((o1172 25 (by decide)).trans iD1009))⟩ ((hx_kr m1236 (hx_mem hG_pk (by decide))).trans ((n1173 _ (hx_ne hG_pk hG0 (by decide))).trans gK1010)) (by rw [show gN1002.toInt.toNat = y1 by omega]; exact hz2) (by omega) (by omega) (by omega) (by omega)
                  · -- 106
                    refine ax_go 1 (y := (107, [some (.ref o), some (.int lv), some (.long vs), none, some (.int z974), some (.long z998), none], [.int lv, .ref o], w993, 0, 0)) rfl trivial ?_
                    refine hx_if_eq (l := 110) rfl rfl (fun h1245 => ?_) (fun h1245 => ?_)
                    · -- 114
                      refine hx_k (l := 115) (m := 0) rfl rfl (by decide) (fun z1246 h1247 => ?_)
                      refine hx_pf (q := (0, 0, 0, 0, 0, 1)) (s := 30) (l := 118) (v := .int z1246) rfl rfl rfl (by decide) rfl rfl rfl hw994 hG0 gA1005 ⟨hx_01 (by omega) (by omega), trivial⟩ (hx_ti (G := G) (lo := 0) (hi := 1) (by omega) (by omega)) (fun w1248 fs1249 g1250 e1251 o1252 n1253 hw1254 n1255 => ?_)
                      have hs1256 := ty_same_tr hs997 (n1255 fz (hx_ok hfz (by decide)))
                      have hf1257 := hFF _ _ (n1255 pr_ (by decide)) hf995
                      refine hx_lk (l := 119) (m := 1) rfl rfl (by decide) (fun z1258 h1259 => ?_)
                      refine ax_go 3 (y := (124, [some (.ref o), some (.int lv), some (.long vs), none, some (.int z974), some (.long z1258), none], [.int z974, .ref o], w1248, 0, 0)) rfl trivial ?_
                      refine hx_k (l := 126) (m := 42) rfl rfl (by decide) (fun z1260 h1261 => ?_)
                      refine hx_pi (l := 129) (as := [.int z1260]) rfl rfl rfl (hp_X9_sign (fz := fz) hF (fun q hq => (by decide +kernel : ∀ q ∈ fb_hv_termOf, q ∈ fb_hp_X9_sign) q (hfz q hq)) (d + 4)) hw1254 hf1257 ⟨(hx_ti (G := G) (lo := 0) (hi := 255) (by omega) (by omega)), trivial⟩ trivial (fun w1262 z1267 hw1263 hf1264 m1265 a1268 b1269 u1270 => ?_)
                      rw [u1270.1]
                      have u1271 := u1270.2 _ _ rfl rfl
                      refine hx_ic_ne (l := 132) rfl rfl (fun h1272 => ?_) (fun h1272 => ?_)
                      · -- 139
                        refine ax_go 1 (y := (141, [some (.ref o), some (.int lv), some (.long vs), none, some (.int z974), some (.long z1258), none], [.int z974, .ref o], w1248, 0, 0)) rfl trivial ?_
                        refine hx_k (l := 143) (m := 47) rfl rfl (by decide) (fun z1273 h1274 => ?_)
                        refine hx_pi (l := 146) (as := [.int z1273]) rfl rfl rfl (hp_X9_sign (fz := fz) hF (fun q hq => (by decide +kernel : ∀ q ∈ fb_hv_termOf, q ∈ fb_hp_X9_sign) q (hfz q hq)) (d + 4)) hw1254 hf1257 ⟨(hx_ti (G := G) (lo := 0) (hi := 255) (by omega) (by omega)), trivial⟩ trivial (fun w1275 z1280 hw1276 hf1277 m1278 a1281 b1282 u1283 => ?_)
                        rw [u1283.1]
                        have u1284 := u1283.2 _ _ rfl rfl
                        refine hx_ic_ne (l := 149) rfl rfl (fun h1285 => ?_) (fun h1285 => ?_)
                        · -- 156
                          refine ax_go 2 (y := (159, [some (.ref o), some (.int lv), some (.long vs), none, some (.int z974), some (.long z1258), none], [.long z1258, .long vs, .ref o], w1248, 0, 0)) rfl trivial ?_
                          refine hx_ldv (l := 160) rfl (by simp) rfl (by omega) (fun z1286 => ?_)
                          refine ax_go 1 (y := (161, [some (.ref o), some (.int lv), some (.long vs), none, some (.int z974), some (.long z1258), none], [.int lv, .long z1286, .ref o], w1248, 0, 0)) rfl trivial ?_
                          refine hx_cj (l := 164) (as := [.ref o, .long z1286, .int lv]) rfl rfl (hx_iv (j := 174) (n := 2) (o := o) (r := []) rfl rfl g1250 rfl) (h_X9_bounded (fz := ([(32, 999), (30, 2), (30, 22), (30, 23), (30, 25)] ++ fz)) hF (hx_app (by decide +kernel) (fun q hq => (by decide +kernel : ∀ q ∈ fb_hv_termOf, q ∈ fb_X9_bounded) q (hfz q hq))) (d + 4)) hw1254 hf1257 ⟨(hx_tr (G := G) (s := 30) (b := 0) hG0 (by decide)), (ck_ltop_ok (G := G) z1286), (hx_ti (G := G) (lo := 0) (hi := 1) (by omega) (by omega)), trivial⟩ (fun w1287 z1292 hw1288 hf1289 m1290 => ?_)
                          have hs1291 := ty_same_tr hs1256 (hx_sapp m1290)
                          obtain ⟨fs1296, g1297, -, q1298⟩ := hx_obj hw1288 hG0 (s := 30) rfl (by decide)
                          refine ax_go 2 (y := (6, [some (.ref o), some (.int lv), some (.long z1292), none, some (.int z974), some (.long z1258), none], [], w1287, 0, 0)) rfl trivial ?_
                          exact ih6 w1287 z1292 (some z974) (some z1258) gN1002 m1 hw1288 hf1289 hs1291 ⟨_, g1297, ((hx_kf m1290 (hx_mem hG0 (by decide)) g1250 g1297).trans ((o1252 22 (by decide)).trans iB1007))⟩ ⟨_, g1297, ((hx_kf m1290 (hx_mem hG0 (by decide)) g1250 g1297).trans ((o1252 2 (by decide)).trans iA1006))⟩ ⟨_, g1297, ((hx_kf m1290 (hx_mem hG0 (by decide)) g1250 g1297).trans ((o1252 23 (by decide)).trans iC1008))⟩ ⟨_, g1297, ((hx_kf m1290 (hx_mem hG0 (by decide)) g1250 g1297).trans ((o1252 25 (by decide)).trans iD1009))⟩ ((hx_kr m1290 (hx_mem hG_pk (by decide))).trans ((n1253 _ (hx_ne hG_pk hG0 (by decide))).trans gK1010)) (by rw [show gN1002.toInt.toNat = y1 by omega]; exact hz2) (by omega) (by omega) (by omega) (by omega)
                        · -- 149
                          refine ax_go 2 (y := (152, [some (.ref o), some (.int lv), some (.long vs), none, some (.int z974), some (.long z1258), none], [.long z1258, .long vs, .ref o], w1248, 0, 0)) rfl trivial ?_
                          refine hx_ldv (l := 153) rfl (by simp) rfl (by omega) (fun z1299 => ?_)
                          refine ax_go 2 (y := (161, [some (.ref o), some (.int lv), some (.long vs), none, some (.int z974), some (.long z1258), none], [.int lv, .long z1299, .ref o], w1248, 0, 0)) rfl trivial ?_
                          refine hx_cj (l := 164) (as := [.ref o, .long z1299, .int lv]) rfl rfl (hx_iv (j := 174) (n := 2) (o := o) (r := []) rfl rfl g1250 rfl) (h_X9_bounded (fz := ([(32, 999), (30, 2), (30, 22), (30, 23), (30, 25)] ++ fz)) hF (hx_app (by decide +kernel) (fun q hq => (by decide +kernel : ∀ q ∈ fb_hv_termOf, q ∈ fb_X9_bounded) q (hfz q hq))) (d + 4)) hw1254 hf1257 ⟨(hx_tr (G := G) (s := 30) (b := 0) hG0 (by decide)), (ck_ltop_ok (G := G) z1299), (hx_ti (G := G) (lo := 0) (hi := 1) (by omega) (by omega)), trivial⟩ (fun w1300 z1305 hw1301 hf1302 m1303 => ?_)
                          have hs1304 := ty_same_tr hs1256 (hx_sapp m1303)
                          obtain ⟨fs1309, g1310, -, q1311⟩ := hx_obj hw1301 hG0 (s := 30) rfl (by decide)
                          refine ax_go 2 (y := (6, [some (.ref o), some (.int lv), some (.long z1305), none, some (.int z974), some (.long z1258), none], [], w1300, 0, 0)) rfl trivial ?_
                          exact ih6 w1300 z1305 (some z974) (some z1258) gN1002 m1 hw1301 hf1302 hs1304 ⟨_, g1310, ((hx_kf m1303 (hx_mem hG0 (by decide)) g1250 g1310).trans ((o1252 22 (by decide)).trans iB1007))⟩ ⟨_, g1310, ((hx_kf m1303 (hx_mem hG0 (by decide)) g1250 g1310).trans ((o1252 2 (by decide)).trans iA1006))⟩ ⟨_, g1310, ((hx_kf m1303 (hx_mem hG0 (by decide)) g1250 g1310).trans ((o1252 23 (by decide)).trans iC1008))⟩ ⟨_, g1310, ((hx_kf m1303 (hx_mem hG0 (by decide)) g1250 g1310).trans ((o1252 25 (by decide)).trans iD1009))⟩ ((hx_kr m1303 (hx_mem hG_pk (by decide))).trans ((n1253 _ (hx_ne hG_pk hG0 (by decide))).trans gK1010)) (by rw [show gN1002.toInt.toNat = y1 by omega]; exact hz2) (by omega) (by omega) (by omega) (by omega)
                      · -- 132
                        refine ax_go 2 (y := (135, [some (.ref o), some (.int lv), some (.long vs), none, some (.int z974), some (.long z1258), none], [.long z1258, .long vs, .ref o], w1248, 0, 0)) rfl trivial ?_
                        refine hx_anyl (l := 136) rfl rfl (fun z1312 => ?_)
                        refine ax_go 2 (y := (161, [some (.ref o), some (.int lv), some (.long vs), none, some (.int z974), some (.long z1258), none], [.int lv, .long z1312, .ref o], w1248, 0, 0)) rfl trivial ?_
                        refine hx_cj (l := 164) (as := [.ref o, .long z1312, .int lv]) rfl rfl (hx_iv (j := 174) (n := 2) (o := o) (r := []) rfl rfl g1250 rfl) (h_X9_bounded (fz := ([(32, 999), (30, 2), (30, 22), (30, 23), (30, 25)] ++ fz)) hF (hx_app (by decide +kernel) (fun q hq => (by decide +kernel : ∀ q ∈ fb_hv_termOf, q ∈ fb_X9_bounded) q (hfz q hq))) (d + 4)) hw1254 hf1257 ⟨(hx_tr (G := G) (s := 30) (b := 0) hG0 (by decide)), (ck_ltop_ok (G := G) z1312), (hx_ti (G := G) (lo := 0) (hi := 1) (by omega) (by omega)), trivial⟩ (fun w1313 z1318 hw1314 hf1315 m1316 => ?_)
                        have hs1317 := ty_same_tr hs1256 (hx_sapp m1316)
                        obtain ⟨fs1322, g1323, -, q1324⟩ := hx_obj hw1314 hG0 (s := 30) rfl (by decide)
                        refine ax_go 2 (y := (6, [some (.ref o), some (.int lv), some (.long z1318), none, some (.int z974), some (.long z1258), none], [], w1313, 0, 0)) rfl trivial ?_
                        exact ih6 w1313 z1318 (some z974) (some z1258) gN1002 m1 hw1314 hf1315 hs1317 ⟨_, g1323, ((hx_kf m1316 (hx_mem hG0 (by decide)) g1250 g1323).trans ((o1252 22 (by decide)).trans iB1007))⟩ ⟨_, g1323, ((hx_kf m1316 (hx_mem hG0 (by decide)) g1250 g1323).trans ((o1252 2 (by decide)).trans iA1006))⟩ ⟨_, g1323, ((hx_kf m1316 (hx_mem hG0 (by decide)) g1250 g1323).trans ((o1252 23 (by decide)).trans iC1008))⟩ ⟨_, g1323, ((hx_kf m1316 (hx_mem hG0 (by decide)) g1250 g1323).trans ((o1252 25 (by decide)).trans iD1009))⟩ ((hx_kr m1316 (hx_mem hG_pk (by decide))).trans ((n1253 _ (hx_ne hG_pk hG0 (by decide))).trans gK1010)) (by rw [show gN1002.toInt.toNat = y1 by omega]; exact hz2) (by omega) (by omega) (by omega) (by omega)
                    · -- 110
                      refine hx_k (l := 111) (m := 1) rfl rfl (by decide) (fun z1325 h1326 => ?_)
                      refine ax_go 1 (y := (115, [some (.ref o), some (.int lv), some (.long vs), none, some (.int z974), some (.long z998), none], [.int z1325, .ref o], w993, 0, 0)) rfl trivial ?_
                      refine hx_pf (q := (0, 0, 0, 0, 0, 1)) (s := 30) (l := 118) (v := .int z1325) rfl rfl rfl (by decide) rfl rfl rfl hw994 hG0 gA1005 ⟨hx_01 (by omega) (by omega), trivial⟩ (hx_ti (G := G) (lo := 0) (hi := 1) (by omega) (by omega)) (fun w1327 fs1328 g1329 e1330 o1331 n1332 hw1333 n1334 => ?_)
                      have hs1335 := ty_same_tr hs997 (n1334 fz (hx_ok hfz (by decide)))
                      have hf1336 := hFF _ _ (n1334 pr_ (by decide)) hf995
                      refine hx_lk (l := 119) (m := 1) rfl rfl (by decide) (fun z1337 h1338 => ?_)
                      refine ax_go 3 (y := (124, [some (.ref o), some (.int lv), some (.long vs), none, some (.int z974), some (.long z1337), none], [.int z974, .ref o], w1327, 0, 0)) rfl trivial ?_
                      refine hx_k (l := 126) (m := 42) rfl rfl (by decide) (fun z1339 h1340 => ?_)
                      refine hx_pi (l := 129) (as := [.int z1339]) rfl rfl rfl (hp_X9_sign (fz := fz) hF (fun q hq => (by decide +kernel : ∀ q ∈ fb_hv_termOf, q ∈ fb_hp_X9_sign) q (hfz q hq)) (d + 4)) hw1333 hf1336 ⟨(hx_ti (G := G) (lo := 0) (hi := 255) (by omega) (by omega)), trivial⟩ trivial (fun w1341 z1346 hw1342 hf1343 m1344 a1347 b1348 u1349 => ?_)
                      rw [u1349.1]
                      have u1350 := u1349.2 _ _ rfl rfl
                      refine hx_ic_ne (l := 132) rfl rfl (fun h1351 => ?_) (fun h1351 => ?_)
                      · -- 139
                        refine ax_go 1 (y := (141, [some (.ref o), some (.int lv), some (.long vs), none, some (.int z974), some (.long z1337), none], [.int z974, .ref o], w1327, 0, 0)) rfl trivial ?_
                        refine hx_k (l := 143) (m := 47) rfl rfl (by decide) (fun z1352 h1353 => ?_)
                        refine hx_pi (l := 146) (as := [.int z1352]) rfl rfl rfl (hp_X9_sign (fz := fz) hF (fun q hq => (by decide +kernel : ∀ q ∈ fb_hv_termOf, q ∈ fb_hp_X9_sign) q (hfz q hq)) (d + 4)) hw1333 hf1336 ⟨(hx_ti (G := G) (lo := 0) (hi := 255) (by omega) (by omega)), trivial⟩ trivial (fun w1354 z1359 hw1355 hf1356 m1357 a1360 b1361 u1362 => ?_)
                        rw [u1362.1]
                        have u1363 := u1362.2 _ _ rfl rfl
                        refine hx_ic_ne (l := 149) rfl rfl (fun h1364 => ?_) (fun h1364 => ?_)
                        · -- 156
                          refine ax_go 2 (y := (159, [some (.ref o), some (.int lv), some (.long vs), none, some (.int z974), some (.long z1337), none], [.long z1337, .long vs, .ref o], w1327, 0, 0)) rfl trivial ?_
                          refine hx_ldv (l := 160) rfl (by simp) rfl (by omega) (fun z1365 => ?_)
                          refine ax_go 1 (y := (161, [some (.ref o), some (.int lv), some (.long vs), none, some (.int z974), some (.long z1337), none], [.int lv, .long z1365, .ref o], w1327, 0, 0)) rfl trivial ?_
                          refine hx_cj (l := 164) (as := [.ref o, .long z1365, .int lv]) rfl rfl (hx_iv (j := 174) (n := 2) (o := o) (r := []) rfl rfl g1329 rfl) (h_X9_bounded (fz := ([(32, 999), (30, 2), (30, 22), (30, 23), (30, 25)] ++ fz)) hF (hx_app (by decide +kernel) (fun q hq => (by decide +kernel : ∀ q ∈ fb_hv_termOf, q ∈ fb_X9_bounded) q (hfz q hq))) (d + 4)) hw1333 hf1336 ⟨(hx_tr (G := G) (s := 30) (b := 0) hG0 (by decide)), (ck_ltop_ok (G := G) z1365), (hx_ti (G := G) (lo := 0) (hi := 1) (by omega) (by omega)), trivial⟩ (fun w1366 z1371 hw1367 hf1368 m1369 => ?_)
                          have hs1370 := ty_same_tr hs1335 (hx_sapp m1369)
                          obtain ⟨fs1375, g1376, -, q1377⟩ := hx_obj hw1367 hG0 (s := 30) rfl (by decide)
                          refine ax_go 2 (y := (6, [some (.ref o), some (.int lv), some (.long z1371), none, some (.int z974), some (.long z1337), none], [], w1366, 0, 0)) rfl trivial ?_
                          exact ih6 w1366 z1371 (some z974) (some z1337) gN1002 m1 hw1367 hf1368 hs1370 ⟨_, g1376, ((hx_kf m1369 (hx_mem hG0 (by decide)) g1329 g1376).trans ((o1331 22 (by decide)).trans iB1007))⟩ ⟨_, g1376, ((hx_kf m1369 (hx_mem hG0 (by decide)) g1329 g1376).trans ((o1331 2 (by decide)).trans iA1006))⟩ ⟨_, g1376, ((hx_kf m1369 (hx_mem hG0 (by decide)) g1329 g1376).trans ((o1331 23 (by decide)).trans iC1008))⟩ ⟨_, g1376, ((hx_kf m1369 (hx_mem hG0 (by decide)) g1329 g1376).trans ((o1331 25 (by decide)).trans iD1009))⟩ ((hx_kr m1369 (hx_mem hG_pk (by decide))).trans ((n1332 _ (hx_ne hG_pk hG0 (by decide))).trans gK1010)) (by rw [show gN1002.toInt.toNat = y1 by omega]; exact hz2) (by omega) (by omega) (by omega) (by omega)
                        · -- 149
                          refine ax_go 2 (y := (152, [some (.ref o), some (.int lv), some (.long vs), none, some (.int z974), some (.long z1337), none], [.long z1337, .long vs, .ref o], w1327, 0, 0)) rfl trivial ?_
                          refine hx_ldv (l := 153) rfl (by simp) rfl (by omega) (fun z1378 => ?_)
                          refine ax_go 2 (y := (161, [some (.ref o), some (.int lv), some (.long vs), none, some (.int z974), some (.long z1337), none], [.int lv, .long z1378, .ref o], w1327, 0, 0)) rfl trivial ?_
                          refine hx_cj (l := 164) (as := [.ref o, .long z1378, .int lv]) rfl rfl (hx_iv (j := 174) (n := 2) (o := o) (r := []) rfl rfl g1329 rfl) (h_X9_bounded (fz := ([(32, 999), (30, 2), (30, 22), (30, 23), (30, 25)] ++ fz)) hF (hx_app (by decide +kernel) (fun q hq => (by decide +kernel : ∀ q ∈ fb_hv_termOf, q ∈ fb_X9_bounded) q (hfz q hq))) (d + 4)) hw1333 hf1336 ⟨(hx_tr (G := G) (s := 30) (b := 0) hG0 (by decide)), (ck_ltop_ok (G := G) z1378), (hx_ti (G := G) (lo := 0) (hi := 1) (by omega) (by omega)), trivial⟩ (fun w1379 z1384 hw1380 hf1381 m1382 => ?_)
                          have hs1383 := ty_same_tr hs1335 (hx_sapp m1382)
                          obtain ⟨fs1388, g1389, -, q1390⟩ := hx_obj hw1380 hG0 (s := 30) rfl (by decide)
                          refine ax_go 2 (y := (6, [some (.ref o), some (.int lv), some (.long z1384), none, some (.int z974), some (.long z1337), none], [], w1379, 0, 0)) rfl trivial ?_
                          exact ih6 w1379 z1384 (some z974) (some z1337) gN1002 m1 hw1380 hf1381 hs1383 ⟨_, g1389, ((hx_kf m1382 (hx_mem hG0 (by decide)) g1329 g1389).trans ((o1331 22 (by decide)).trans iB1007))⟩ ⟨_, g1389, ((hx_kf m1382 (hx_mem hG0 (by decide)) g1329 g1389).trans ((o1331 2 (by decide)).trans iA1006))⟩ ⟨_, g1389, ((hx_kf m1382 (hx_mem hG0 (by decide)) g1329 g1389).trans ((o1331 23 (by decide)).trans iC1008))⟩ ⟨_, g1389, ((hx_kf m1382 (hx_mem hG0 (by decide)) g1329 g1389).trans ((o1331 25 (by decide)).trans iD1009))⟩ ((hx_kr m1382 (hx_mem hG_pk (by decide))).trans ((n1332 _ (hx_ne hG_pk hG0 (by decide))).trans gK1010)) (by rw [show gN1002.toInt.toNat = y1 by omega]; exact hz2) (by omega) (by omega) (by omega) (by omega)
                      · -- 132
                        refine ax_go 2 (y := (135, [some (.ref o), some (.int lv), some (.long vs), none, some (.int z974), some (.long z1337), none], [.long z1337, .long vs, .ref o], w1327, 0, 0)) rfl trivial ?_
                        refine hx_anyl (l := 136) rfl rfl (fun z1391 => ?_)
                        refine ax_go 2 (y := (161, [some (.ref o), some (.int lv), some (.long vs), none, some (.int z974), some (.long z1337), none], [.int lv, .long z1391, .ref o], w1327, 0, 0)) rfl trivial ?_
                        refine hx_cj (l := 164) (as := [.ref o, .long z1391, .int lv]) rfl rfl (hx_iv (j := 174) (n := 2) (o := o) (r := []) rfl rfl g1329 rfl) (h_X9_bounded (fz := ([(32, 999), (30, 2), (30, 22), (30, 23), (30, 25)] ++ fz)) hF (hx_app (by decide +kernel) (fun q hq => (by decide +kernel : ∀ q ∈ fb_hv_termOf, q ∈ fb_X9_bounded) q (hfz q hq))) (d + 4)) hw1333 hf1336 ⟨(hx_tr (G := G) (s := 30) (b := 0) hG0 (by decide)), (ck_ltop_ok (G := G) z1391), (hx_ti (G := G) (lo := 0) (hi := 1) (by omega) (by omega)), trivial⟩ (fun w1392 z1397 hw1393 hf1394 m1395 => ?_)
                        have hs1396 := ty_same_tr hs1335 (hx_sapp m1395)
                        obtain ⟨fs1401, g1402, -, q1403⟩ := hx_obj hw1393 hG0 (s := 30) rfl (by decide)
                        refine ax_go 2 (y := (6, [some (.ref o), some (.int lv), some (.long z1397), none, some (.int z974), some (.long z1337), none], [], w1392, 0, 0)) rfl trivial ?_
                        exact ih6 w1392 z1397 (some z974) (some z1337) gN1002 m1 hw1393 hf1394 hs1396 ⟨_, g1402, ((hx_kf m1395 (hx_mem hG0 (by decide)) g1329 g1402).trans ((o1331 22 (by decide)).trans iB1007))⟩ ⟨_, g1402, ((hx_kf m1395 (hx_mem hG0 (by decide)) g1329 g1402).trans ((o1331 2 (by decide)).trans iA1006))⟩ ⟨_, g1402, ((hx_kf m1395 (hx_mem hG0 (by decide)) g1329 g1402).trans ((o1331 23 (by decide)).trans iC1008))⟩ ⟨_, g1402, ((hx_kf m1395 (hx_mem hG0 (by decide)) g1329 g1402).trans ((o1331 25 (by decide)).trans iD1009))⟩ ((hx_kr m1395 (hx_mem hG_pk (by decide))).trans ((n1332 _ (hx_ne hG_pk hG0 (by decide))).trans gK1010)) (by rw [show gN1002.toInt.toNat = y1 by omega]; exact hz2) (by omega) (by omega) (by omega) (by omega)
    change ab_wp ro (ab_Ev ro ab_codes (d + 5)) 9 false (some .long) ab_k_X9_termOf (fun o_1 => ∃ v w1, o_1 = (v, w1, 0, 0) ∧ ty_w sp_ G w1 ∧ (F9 G F) w1 ∧ ty_same G fz w w1 ∧ ck_res G (some (1, (-9223372036854775808), 9223372036854775807)) v ∧ (evR pk f q e io) ([.ref o, .int lv] : List Value) w v w1) (0, [some (.ref o), some (.int lv), none, none, none, none, none], [], w, 0, 0)
    refine ax_go 2 (y := (2, [some (.ref o), some (.int lv), none, none, none, none, none], [.int lv, .ref o], w, 0, 0)) rfl trivial ?_
    obtain ⟨m0, y0, hm0, hy1, hy2⟩ := gr_term hgr
    refine hx_pj (l := 5) (as := [.ref o, .int lv]) rfl rfl (hx_iv (j := 177) (n := 1) (o := o) (r := []) rfl rfl g0 rfl) (ihpartOf m0 (by omega) b pk f e io g y0 (d + 5) he ⟨by omega, by omega⟩ hy1 (by omega)) hw hf ⟨(hx_tr (G := G) (s := 30) (b := 0) hG0 (by decide)), (hx_ti (G := G) (lo := 0) (hi := 1) (by omega) (by omega)), trivial⟩ (fun o1 l1 h1 => by cases h1; exact ⟨_, g0, i2, i22, i23, i25, gk0⟩) (fun w1404 z1409 hw1405 hf1406 m1407 a1410 b1411 u1412 => ?_)
    have hs1408 := ty_same_tr (ty_same_rf w) m1407
    obtain ⟨gN1413, hN1414, fsN1415, gA1416, iA1417, iB1418, iC1419, iD1420, gK1421⟩ := u1412 _ _ rfl
    have le1422 := gr_le hy1 (by omega)
    refine ax_go 1 (y := (6, [some (.ref o), some (.int lv), some (.long z1409), none, none, none, none], [], w1404, 0, 0)) rfl trivial ?_
    exact ct6 _ w1404 z1409 none none gN1413 m0 hw1405 hf1406 hs1408 ⟨_, gA1416, iB1418⟩ ⟨_, gA1416, iA1417⟩ ⟨_, gA1416, iC1419⟩ ⟨_, gA1416, iD1420⟩ gK1421 (by rw [show gN1413.toInt.toNat = y0 by omega]; exact hy2) (by omega) (by omega) (by omega) (Nat.lt_succ_self _)
def fb_hv_bothOf : List (Nat × Nat) := [(8, 3), (8, 5), (19, 999), (32, 999), (33, 999), (34, 999), (35, 999), (44, 999), (45, 999), (1, 0), (18, 999), (2, 11), (2, 14), (1, 15), (54, 11), (4, 2), (7, 9), (30, 13), (30, 34), (30, 2), (30, 23), (30, 24), (30, 25), (46, 999), (47, 999), (30, 35), (30, 36), (7, 0), (24, 999), (37, 999), (30, 4), (30, 5), (30, 6), (30, 8), (30, 9), (30, 10), (30, 11), (30, 14), (30, 15), (30, 16), (30, 17), (30, 18), (30, 19), (30, 20), (30, 21), (39, 999), (40, 999), (41, 999), (30, 30), (30, 42), (30, 43), (30, 44), (1, 1), (1, 3), (1, 10), (1, 13), (8, 0), (30, 49), (2, 15), (8, 1)]
set_option maxHeartbeats 8000000 in
theorem hv_bothOf {ro : ab_R} {G : Nat → Nat} {fz : List (Nat × Nat)} {F : ab_W → Prop} (hF : ∀ w w', smt G w w' → F w → F w') (d : Nat) {pk : Nat} {f : Nat → Int32} {g e io : Int32} {n b q : Nat} (he : 0 ≤ e.toInt ∧ e.toInt ≤ 2800) (hg : 0 ≤ g.toInt ∧ g.toInt ≤ e.toInt) (hgr : gr (cf f) e.toInt.toNat (decide (io.toInt ≠ 0)) n b 7 g.toInt.toNat = some q) (hD : 6 * b + 11 ≤ d + 6) (ihplainOf : ∀ m, m < n → EvK ro G F fz m 6 181 10 (some (0, 0, 1))) (hfz : ∀ q ∈ fz, q ∈ fb_hv_bothOf) : hx_ct ro sp_ G (F9 G F) fz (ab_Ev ro ab_codes (d + 6)) 180 [(2, 30, 0), (0, 0, 1)] (some (0, 0, 1)) (evP pk f g e io) (evR pk f q e io) := by
  have hFF := F9_same hF
  refine hx_hand (d := d + 5) (by decide) (fun as w hw hf has hP => ?_)
  match as, has with
  | [v0, v1], ⟨h0, h1, _⟩ =>
    obtain ⟨o, rfl, _, hG0⟩ := ty_refn h0 rfl rfl
    replace hG0 : G o = 30 := hG0
    obtain ⟨lv, rfl, hl1, hh1⟩ := ty_int h1 rfl
    replace hl1 : (0 : Int) ≤ lv.toInt := hl1
    replace hh1 : lv.toInt ≤ 1 := hh1
    refine ⟨rfl, ?_⟩
    obtain ⟨fs0, g0, i2, i22, i23, i25, gk0⟩ := hP o lv rfl
    have hG_pk : G pk = 32 := hx_sref hw g0 hG0 i2
    have ct6 : ∀ (nq : Nat) (w1 : ab_W) (vv : Int32) (u3 : Option Int32) (gq : Int32) (mq : Nat), ty_w sp_ G w1 → (F9 G F) w1 → ty_same G fz w w1 → (hx_has w1 o 9 22 (.int gq)) → (hx_has w1 o 9 2 (.ref pk)) → (hx_has w1 o 9 23 (.int e)) → (hx_has w1 o 9 25 (.int io)) → (w1[pk]? = some (.inl (0, 5721, .inl f))) → (gr (cf f) e.toInt.toNat (decide (io.toInt ≠ 0)) mq b 8 gq.toInt.toNat = some q) → (mq < n) → (0 ≤ gq.toInt) → (gq.toInt ≤ e.toInt) → (0 ≤ vv.toInt) → (vv.toInt ≤ 1) → ((mq : Int)).toNat < nq → ab_wp ro (ab_Ev ro ab_codes (d + 5)) 9 false (some .boolean) ab_k_X9_bothOf (fun o_1 => ∃ v w1, o_1 = (v, w1, 0, 0) ∧ ty_w sp_ G w1 ∧ (F9 G F) w1 ∧ ty_same G fz w w1 ∧ ck_res G (some (0, 0, 1)) v ∧ (evR pk f q e io) ([.ref o, .int lv] : List Value) w v w1) (6, [some (.ref o), some (.int lv), some (.int vv), (u3.map Value.int)], [], w1, 0, 0) := by
      intro nq
      induction nq with
      | zero => intro w1 vv u3 gq mq hw12 hf13 hs14 hh2 hh3 hh4 hh5 g6 hgq i7 i8 i9 i10 i11 hm; exact absurd hm (Nat.not_lt_zero _)
      | succ nq ih6 =>
        intro w1 vv u3 gq mq hw12 hf13 hs14 hh2 hh3 hh4 hh5 g6 hgq i7 i8 i9 i10 i11 hm6
        obtain ⟨fs15, g16, e17⟩ := hh2
        have q18 := hx_oq hw12 g16 hG0 (s := 30) rfl
        obtain ⟨x19, e20, a21, b22⟩ := hx_fi (k := 22) (lo := (-2147483648)) (hi := 2147483647) q18 rfl
        obtain rfl : gq = x19 := hx_inji e17 e20
        obtain ⟨fs23, g24, e25⟩ := hh3
        obtain rfl : fs15 = fs23 := hx_inj g16 g24
        obtain ⟨fs26, g27, e28⟩ := hh4
        obtain rfl : fs15 = fs26 := hx_inj g16 g27
        obtain ⟨fs29, g30, e31⟩ := hh5
        obtain rfl : fs15 = fs29 := hx_inj g16 g30
        refine ax_go 1 (y := (7, [some (.ref o), some (.int lv), some (.int vv), (u3.map Value.int)], [.ref o], w1, 0, 0)) rfl trivial ?_
        refine hx_k (l := 9) (m := 7) rfl rfl (by decide) (fun z32 h33 => ?_)
        refine hx_pi (l := 12) (as := [.ref o, .int z32]) rfl rfl (hx_iv (j := 173) (n := 1) (o := o) (r := []) rfl rfl g16 rfl) (hp_X9_passes0 (fz := fz) hF (pk := pk) (f := f) (g := gq) (e := e) (io := io) ⟨by omega, by omega⟩ he (fun q hq => (by decide +kernel : ∀ q ∈ fb_hv_bothOf, q ∈ fb_hp_X9_passes0) q (hfz q hq)) (d + 3)) hw12 hf13 ⟨(hx_tr (G := G) (s := 30) (b := 0) hG0 (by decide)), (ck_top_ok (G := G) z32), trivial⟩ (fun o1 l1 h1 => by cases h1; exact ⟨_, g16, e25, e17, e28, e31, g6⟩) (fun w34 z39 hw35 hf36 m37 a40 b41 u42 => ?_)
        have hs38 := ty_same_tr hs14 m37
        obtain ⟨gN43, ⟨fsN44, gA45, iA46, iB47, iC48, iD49, gK50⟩, hC51⟩ := u42 _ _ _ rfl rfl
        refine hx_if_eq (l := 15) rfl rfl (fun h52 => ?_) (fun h52 => ?_)
        · -- 50
          have hend := ((gr_bl hgq).resolve_left (fun zz => absurd zz.1 (by omega))).2
          refine ax_go 1 (y := (51, [some (.ref o), some (.int lv), some (.int vv), (u3.map Value.int)], [.int vv], w34, 0, 0)) rfl trivial ?_
          exact ax_ret rfl rfl ⟨hx_01 (by omega) (by omega), trivial⟩ ⟨some (.int vv), _, rfl, hw35, hf36, hs38, (hx_ti (G := G) (lo := 0) (hi := 1) (by omega) (by omega)), (fun o1 l1 h1 => by cases h1; exact ⟨gN43, by omega, ⟨_, gA45, iA46, iB47, iC48, iD49, gK50⟩⟩)⟩
        · -- 15
          obtain ⟨m1, y1, hm1, hz1, hz2⟩ := ((gr_bl hgq).resolve_right (fun zz => zz.1 (by omega))).2
          have lt1 := gc_lt (c := cf f) (e := e.toInt.toNat) (p := gq.toInt.toNat) (by omega)
          refine ax_go 2 (y := (17, [some (.ref o), some (.int lv), some (.int vv), (u3.map Value.int)], [.int lv, .ref o], w34, 0, 0)) rfl trivial ?_
          refine hx_if_eq (l := 20) rfl rfl (fun h53 => ?_) (fun h53 => ?_)
          · -- 28
            refine hx_k (l := 29) (m := 0) rfl rfl (by decide) (fun z54 h55 => ?_)
            refine hx_pi (l := 32) (as := [.ref o, .int z54]) rfl rfl (hx_iv (j := 181) (n := 1) (o := o) (r := []) rfl rfl gA45 rfl) (ihplainOf m1 (by omega) b pk f e io gN43 y1 (d + 5) he ⟨by omega, by omega⟩ (by rw [show gN43.toInt.toNat = gq.toInt.toNat + 1 by omega]; exact hz1) (by omega)) hw35 hf36 ⟨(hx_tr (G := G) (s := 30) (b := 0) hG0 (by decide)), (hx_ti (G := G) (lo := 0) (hi := 1) (by omega) (by omega)), trivial⟩ (fun o1 l1 h1 => by cases h1; exact ⟨_, gA45, iA46, iB47, iC48, iD49, gK50⟩) (fun w56 z61 hw57 hf58 m59 a62 b63 u64 => ?_)
            have hs60 := ty_same_tr hs38 m59
            obtain ⟨gN65, hN66, fsN67, gA68, iA69, iB70, iC71, iD72, gK73⟩ := u64 _ _ rfl
            have le74 := gr_le hz1 (by omega)
            refine ax_go 2 (y := (34, [some (.ref o), some (.int lv), some (.int vv), some (.int z61)], [.int vv], w56, 0, 0)) rfl trivial ?_
            refine hx_if_eq (l := 37) rfl rfl (fun h75 => ?_) (fun h75 => ?_)
            · -- 45
              refine hx_k (l := 46) (m := 0) rfl rfl (by decide) (fun z76 h77 => ?_)
              refine ax_go 2 (y := (6, [some (.ref o), some (.int lv), some (.int z76), some (.int z61)], [], w56, 0, 0)) rfl trivial ?_
              exact ih6 w56 z76 (some z61) gN65 m1 hw57 hf58 hs60 ⟨_, gA68, iB70⟩ ⟨_, gA68, iA69⟩ ⟨_, gA68, iC71⟩ ⟨_, gA68, iD72⟩ gK73 (by rw [show gN65.toInt.toNat = y1 by omega]; exact hz2) (by omega) (by omega) (by omega) (by omega) (by omega) (by omega)
            · -- 37
              refine ax_go 1 (y := (38, [some (.ref o), some (.int lv), some (.int vv), some (.int z61)], [.int z61], w56, 0, 0)) rfl trivial ?_
              refine hx_if_eq (l := 41) rfl rfl (fun h78 => ?_) (fun h78 => ?_)
              · -- 45
                refine hx_k (l := 46) (m := 0) rfl rfl (by decide) (fun z79 h80 => ?_)
                refine ax_go 2 (y := (6, [some (.ref o), some (.int lv), some (.int z79), some (.int z61)], [], w56, 0, 0)) rfl trivial ?_
                exact ih6 w56 z79 (some z61) gN65 m1 hw57 hf58 hs60 ⟨_, gA68, iB70⟩ ⟨_, gA68, iA69⟩ ⟨_, gA68, iC71⟩ ⟨_, gA68, iD72⟩ gK73 (by rw [show gN65.toInt.toNat = y1 by omega]; exact hz2) (by omega) (by omega) (by omega) (by omega) (by omega) (by omega)
              · -- 41
                refine hx_k (l := 42) (m := 1) rfl rfl (by decide) (fun z81 h82 => ?_)
                refine ax_go 3 (y := (6, [some (.ref o), some (.int lv), some (.int z81), some (.int z61)], [], w56, 0, 0)) rfl trivial ?_
                exact ih6 w56 z81 (some z61) gN65 m1 hw57 hf58 hs60 ⟨_, gA68, iB70⟩ ⟨_, gA68, iA69⟩ ⟨_, gA68, iC71⟩ ⟨_, gA68, iD72⟩ gK73 (by rw [show gN65.toInt.toNat = y1 by omega]; exact hz2) (by omega) (by omega) (by omega) (by omega) (by omega) (by omega)
          · -- 20
            refine ax_go 1 (y := (21, [some (.ref o), some (.int lv), some (.int vv), (u3.map Value.int)], [.int vv, .ref o], w34, 0, 0)) rfl trivial ?_
            refine hx_if_eq (l := 24) rfl rfl (fun h83 => ?_) (fun h83 => ?_)
            · -- 28
              refine hx_k (l := 29) (m := 0) rfl rfl (by decide) (fun z84 h85 => ?_)
              refine hx_pi (l := 32) (as := [.ref o, .int z84]) rfl rfl (hx_iv (j := 181) (n := 1) (o := o) (r := []) rfl rfl gA45 rfl) (ihplainOf m1 (by omega) b pk f e io gN43 y1 (d + 5) he ⟨by omega, by omega⟩ (by rw [show gN43.toInt.toNat = gq.toInt.toNat + 1 by omega]; exact hz1) (by omega)) hw35 hf36 ⟨(hx_tr (G := G) (s := 30) (b := 0) hG0 (by decide)), (hx_ti (G := G) (lo := 0) (hi := 1) (by omega) (by omega)), trivial⟩ (fun o1 l1 h1 => by cases h1; exact ⟨_, gA45, iA46, iB47, iC48, iD49, gK50⟩) (fun w86 z91 hw87 hf88 m89 a92 b93 u94 => ?_)
              have hs90 := ty_same_tr hs38 m89
              obtain ⟨gN95, hN96, fsN97, gA98, iA99, iB100, iC101, iD102, gK103⟩ := u94 _ _ rfl
              have le104 := gr_le hz1 (by omega)
              refine ax_go 2 (y := (34, [some (.ref o), some (.int lv), some (.int vv), some (.int z91)], [.int vv], w86, 0, 0)) rfl trivial ?_
              refine hx_if_eq (l := 37) rfl rfl (fun h105 => ?_) (fun h105 => ?_)
              · -- 45
                refine hx_k (l := 46) (m := 0) rfl rfl (by decide) (fun z106 h107 => ?_)
                refine ax_go 2 (y := (6, [some (.ref o), some (.int lv), some (.int z106), some (.int z91)], [], w86, 0, 0)) rfl trivial ?_
                exact ih6 w86 z106 (some z91) gN95 m1 hw87 hf88 hs90 ⟨_, gA98, iB100⟩ ⟨_, gA98, iA99⟩ ⟨_, gA98, iC101⟩ ⟨_, gA98, iD102⟩ gK103 (by rw [show gN95.toInt.toNat = y1 by omega]; exact hz2) (by omega) (by omega) (by omega) (by omega) (by omega) (by omega)
              · -- 37
                refine ax_go 1 (y := (38, [some (.ref o), some (.int lv), some (.int vv), some (.int z91)], [.int z91], w86, 0, 0)) rfl trivial ?_
                refine hx_if_eq (l := 41) rfl rfl (fun h108 => ?_) (fun h108 => ?_)
                · -- 45
                  refine hx_k (l := 46) (m := 0) rfl rfl (by decide) (fun z109 h110 => ?_)
                  refine ax_go 2 (y := (6, [some (.ref o), some (.int lv), some (.int z109), some (.int z91)], [], w86, 0, 0)) rfl trivial ?_
                  exact ih6 w86 z109 (some z91) gN95 m1 hw87 hf88 hs90 ⟨_, gA98, iB100⟩ ⟨_, gA98, iA99⟩ ⟨_, gA98, iC101⟩ ⟨_, gA98, iD102⟩ gK103 (by rw [show gN95.toInt.toNat = y1 by omega]; exact hz2) (by omega) (by omega) (by omega) (by omega) (by omega) (by omega)
                · -- 41
                  refine hx_k (l := 42) (m := 1) rfl rfl (by decide) (fun z111 h112 => ?_)
                  refine ax_go 3 (y := (6, [some (.ref o), some (.int lv), some (.int z111), some (.int z91)], [], w86, 0, 0)) rfl trivial ?_
                  exact ih6 w86 z111 (some z91) gN95 m1 hw87 hf88 hs90 ⟨_, gA98, iB100⟩ ⟨_, gA98, iA99⟩ ⟨_, gA98, iC101⟩ ⟨_, gA98, iD102⟩ gK103 (by rw [show gN95.toInt.toNat = y1 by omega]; exact hz2) (by omega) (by omega) (by omega) (by omega) (by omega) (by omega)
            · -- 24
              refine hx_k (l := 25) (m := 1) rfl rfl (by decide) (fun z113 h114 => ?_)
              refine ax_go 1 (y := (29, [some (.ref o), some (.int lv), some (.int vv), (u3.map Value.int)], [.int z113, .ref o], w34, 0, 0)) rfl trivial ?_
              refine hx_pi (l := 32) (as := [.ref o, .int z113]) rfl rfl (hx_iv (j := 181) (n := 1) (o := o) (r := []) rfl rfl gA45 rfl) (ihplainOf m1 (by omega) b pk f e io gN43 y1 (d + 5) he ⟨by omega, by omega⟩ (by rw [show gN43.toInt.toNat = gq.toInt.toNat + 1 by omega]; exact hz1) (by omega)) hw35 hf36 ⟨(hx_tr (G := G) (s := 30) (b := 0) hG0 (by decide)), (hx_ti (G := G) (lo := 0) (hi := 1) (by omega) (by omega)), trivial⟩ (fun o1 l1 h1 => by cases h1; exact ⟨_, gA45, iA46, iB47, iC48, iD49, gK50⟩) (fun w115 z120 hw116 hf117 m118 a121 b122 u123 => ?_)
              have hs119 := ty_same_tr hs38 m118
              obtain ⟨gN124, hN125, fsN126, gA127, iA128, iB129, iC130, iD131, gK132⟩ := u123 _ _ rfl
              have le133 := gr_le hz1 (by omega)
              refine ax_go 2 (y := (34, [some (.ref o), some (.int lv), some (.int vv), some (.int z120)], [.int vv], w115, 0, 0)) rfl trivial ?_
              refine hx_if_eq (l := 37) rfl rfl (fun h134 => ?_) (fun h134 => ?_)
              · -- 45
                refine hx_k (l := 46) (m := 0) rfl rfl (by decide) (fun z135 h136 => ?_)
                refine ax_go 2 (y := (6, [some (.ref o), some (.int lv), some (.int z135), some (.int z120)], [], w115, 0, 0)) rfl trivial ?_
                exact ih6 w115 z135 (some z120) gN124 m1 hw116 hf117 hs119 ⟨_, gA127, iB129⟩ ⟨_, gA127, iA128⟩ ⟨_, gA127, iC130⟩ ⟨_, gA127, iD131⟩ gK132 (by rw [show gN124.toInt.toNat = y1 by omega]; exact hz2) (by omega) (by omega) (by omega) (by omega) (by omega) (by omega)
              · -- 37
                refine ax_go 1 (y := (38, [some (.ref o), some (.int lv), some (.int vv), some (.int z120)], [.int z120], w115, 0, 0)) rfl trivial ?_
                refine hx_if_eq (l := 41) rfl rfl (fun h137 => ?_) (fun h137 => ?_)
                · -- 45
                  refine hx_k (l := 46) (m := 0) rfl rfl (by decide) (fun z138 h139 => ?_)
                  refine ax_go 2 (y := (6, [some (.ref o), some (.int lv), some (.int z138), some (.int z120)], [], w115, 0, 0)) rfl trivial ?_
                  exact ih6 w115 z138 (some z120) gN124 m1 hw116 hf117 hs119 ⟨_, gA127, iB129⟩ ⟨_, gA127, iA128⟩ ⟨_, gA127, iC130⟩ ⟨_, gA127, iD131⟩ gK132 (by rw [show gN124.toInt.toNat = y1 by omega]; exact hz2) (by omega) (by omega) (by omega) (by omega) (by omega) (by omega)
                · -- 41
                  refine hx_k (l := 42) (m := 1) rfl rfl (by decide) (fun z140 h141 => ?_)
                  refine ax_go 3 (y := (6, [some (.ref o), some (.int lv), some (.int z140), some (.int z120)], [], w115, 0, 0)) rfl trivial ?_
                  exact ih6 w115 z140 (some z120) gN124 m1 hw116 hf117 hs119 ⟨_, gA127, iB129⟩ ⟨_, gA127, iA128⟩ ⟨_, gA127, iC130⟩ ⟨_, gA127, iD131⟩ gK132 (by rw [show gN124.toInt.toNat = y1 by omega]; exact hz2) (by omega) (by omega) (by omega) (by omega) (by omega) (by omega)
    change ab_wp ro (ab_Ev ro ab_codes (d + 5)) 9 false (some .boolean) ab_k_X9_bothOf (fun o_1 => ∃ v w1, o_1 = (v, w1, 0, 0) ∧ ty_w sp_ G w1 ∧ (F9 G F) w1 ∧ ty_same G fz w w1 ∧ ck_res G (some (0, 0, 1)) v ∧ (evR pk f q e io) ([.ref o, .int lv] : List Value) w v w1) (0, [some (.ref o), some (.int lv), none, none], [], w, 0, 0)
    refine ax_go 2 (y := (2, [some (.ref o), some (.int lv), none, none], [.int lv, .ref o], w, 0, 0)) rfl trivial ?_
    obtain ⟨m0, y0, hm0, hy1, hy2⟩ := gr_both hgr
    refine hx_pi (l := 5) (as := [.ref o, .int lv]) rfl rfl (hx_iv (j := 181) (n := 1) (o := o) (r := []) rfl rfl g0 rfl) (ihplainOf m0 (by omega) b pk f e io g y0 (d + 5) he ⟨by omega, by omega⟩ hy1 (by omega)) hw hf ⟨(hx_tr (G := G) (s := 30) (b := 0) hG0 (by decide)), (hx_ti (G := G) (lo := 0) (hi := 1) (by omega) (by omega)), trivial⟩ (fun o1 l1 h1 => by cases h1; exact ⟨_, g0, i2, i22, i23, i25, gk0⟩) (fun w142 z147 hw143 hf144 m145 a148 b149 u150 => ?_)
    have hs146 := ty_same_tr (ty_same_rf w) m145
    obtain ⟨gN151, hN152, fsN153, gA154, iA155, iB156, iC157, iD158, gK159⟩ := u150 _ _ rfl
    have le160 := gr_le hy1 (by omega)
    refine ax_go 1 (y := (6, [some (.ref o), some (.int lv), some (.int z147), none], [], w142, 0, 0)) rfl trivial ?_
    exact ct6 _ w142 z147 none gN151 m0 hw143 hf144 hs146 ⟨_, gA154, iB156⟩ ⟨_, gA154, iA155⟩ ⟨_, gA154, iC157⟩ ⟨_, gA154, iD158⟩ gK159 (by rw [show gN151.toInt.toNat = y0 by omega]; exact hy2) (by omega) (by omega) (by omega) (by omega) (by omega) (Nat.lt_succ_self _)
def fb_hv_testOf : List (Nat × Nat) := [(8, 3), (8, 5), (19, 999), (32, 999), (33, 999), (34, 999), (35, 999), (44, 999), (45, 999), (1, 0), (18, 999), (2, 11), (2, 14), (1, 15), (54, 11), (4, 2), (7, 9), (30, 13), (30, 34), (30, 2), (30, 23), (30, 24), (30, 25), (46, 999), (47, 999), (30, 35), (30, 36), (7, 0), (24, 999), (37, 999), (30, 4), (30, 5), (30, 6), (30, 8), (30, 9), (30, 10), (30, 11), (30, 14), (30, 15), (30, 16), (30, 17), (30, 18), (30, 19), (30, 20), (30, 21), (39, 999), (40, 999), (41, 999), (30, 30), (30, 42), (30, 43), (30, 44), (1, 1), (1, 3), (1, 10), (1, 13), (8, 0), (30, 49), (2, 15), (8, 1)]
set_option maxHeartbeats 8000000 in
theorem hv_testOf {ro : ab_R} {G : Nat → Nat} {fz : List (Nat × Nat)} {F : ab_W → Prop} (hF : ∀ w w', smt G w w' → F w → F w') (d : Nat) {pk : Nat} {f : Nat → Int32} {g e io : Int32} {n b q : Nat} (he : 0 ≤ e.toInt ∧ e.toInt ≤ 2800) (hg : 0 ≤ g.toInt ∧ g.toInt ≤ e.toInt) (hgr : gr (cf f) e.toInt.toNat (decide (io.toInt ≠ 0)) n b 9 g.toInt.toNat = some q) (hD : 6 * b + 12 ≤ d + 6) (ihbothOf : ∀ m, m < n → EvK ro G F fz m 7 180 11 (some (0, 0, 1))) (hfz : ∀ q ∈ fz, q ∈ fb_hv_testOf) : hx_ct ro sp_ G (F9 G F) fz (ab_Ev ro ab_codes (d + 6)) 179 [(2, 30, 0), (0, 0, 1)] (some (0, 0, 1)) (evP pk f g e io) (evR pk f q e io) := by
  have hFF := F9_same hF
  refine hx_hand (d := d + 5) (by decide) (fun as w hw hf has hP => ?_)
  match as, has with
  | [v0, v1], ⟨h0, h1, _⟩ =>
    obtain ⟨o, rfl, _, hG0⟩ := ty_refn h0 rfl rfl
    replace hG0 : G o = 30 := hG0
    obtain ⟨lv, rfl, hl1, hh1⟩ := ty_int h1 rfl
    replace hl1 : (0 : Int) ≤ lv.toInt := hl1
    replace hh1 : lv.toInt ≤ 1 := hh1
    refine ⟨rfl, ?_⟩
    obtain ⟨fs0, g0, i2, i22, i23, i25, gk0⟩ := hP o lv rfl
    have hG_pk : G pk = 32 := hx_sref hw g0 hG0 i2
    have ct6 : ∀ (nq : Nat) (w1 : ab_W) (vv : Int32) (u3 : Option Int32) (gq : Int32) (mq : Nat), ty_w sp_ G w1 → (F9 G F) w1 → ty_same G fz w w1 → (hx_has w1 o 9 22 (.int gq)) → (hx_has w1 o 9 2 (.ref pk)) → (hx_has w1 o 9 23 (.int e)) → (hx_has w1 o 9 25 (.int io)) → (w1[pk]? = some (.inl (0, 5721, .inl f))) → (gr (cf f) e.toInt.toNat (decide (io.toInt ≠ 0)) mq b 10 gq.toInt.toNat = some q) → (mq < n) → (0 ≤ gq.toInt) → (gq.toInt ≤ e.toInt) → (0 ≤ vv.toInt) → (vv.toInt ≤ 1) → ((mq : Int)).toNat < nq → ab_wp ro (ab_Ev ro ab_codes (d + 5)) 9 false (some .boolean) ab_k_X9_testOf (fun o_1 => ∃ v w1, o_1 = (v, w1, 0, 0) ∧ ty_w sp_ G w1 ∧ (F9 G F) w1 ∧ ty_same G fz w w1 ∧ ck_res G (some (0, 0, 1)) v ∧ (evR pk f q e io) ([.ref o, .int lv] : List Value) w v w1) (6, [some (.ref o), some (.int lv), some (.int vv), (u3.map Value.int)], [], w1, 0, 0) := by
      intro nq
      induction nq with
      | zero => intro w1 vv u3 gq mq hw12 hf13 hs14 hh2 hh3 hh4 hh5 g6 hgq i7 i8 i9 i10 i11 hm; exact absurd hm (Nat.not_lt_zero _)
      | succ nq ih6 =>
        intro w1 vv u3 gq mq hw12 hf13 hs14 hh2 hh3 hh4 hh5 g6 hgq i7 i8 i9 i10 i11 hm6
        obtain ⟨fs15, g16, e17⟩ := hh2
        have q18 := hx_oq hw12 g16 hG0 (s := 30) rfl
        obtain ⟨x19, e20, a21, b22⟩ := hx_fi (k := 22) (lo := (-2147483648)) (hi := 2147483647) q18 rfl
        obtain rfl : gq = x19 := hx_inji e17 e20
        obtain ⟨fs23, g24, e25⟩ := hh3
        obtain rfl : fs15 = fs23 := hx_inj g16 g24
        obtain ⟨fs26, g27, e28⟩ := hh4
        obtain rfl : fs15 = fs26 := hx_inj g16 g27
        obtain ⟨fs29, g30, e31⟩ := hh5
        obtain rfl : fs15 = fs29 := hx_inj g16 g30
        refine ax_go 1 (y := (7, [some (.ref o), some (.int lv), some (.int vv), (u3.map Value.int)], [.ref o], w1, 0, 0)) rfl trivial ?_
        refine hx_k (l := 9) (m := 6) rfl rfl (by decide) (fun z32 h33 => ?_)
        refine hx_pi (l := 12) (as := [.ref o, .int z32]) rfl rfl (hx_iv (j := 173) (n := 1) (o := o) (r := []) rfl rfl g16 rfl) (hp_X9_passes0 (fz := fz) hF (pk := pk) (f := f) (g := gq) (e := e) (io := io) ⟨by omega, by omega⟩ he (fun q hq => (by decide +kernel : ∀ q ∈ fb_hv_testOf, q ∈ fb_hp_X9_passes0) q (hfz q hq)) (d + 3)) hw12 hf13 ⟨(hx_tr (G := G) (s := 30) (b := 0) hG0 (by decide)), (ck_top_ok (G := G) z32), trivial⟩ (fun o1 l1 h1 => by cases h1; exact ⟨_, g16, e25, e17, e28, e31, g6⟩) (fun w34 z39 hw35 hf36 m37 a40 b41 u42 => ?_)
        have hs38 := ty_same_tr hs14 m37
        obtain ⟨gN43, ⟨fsN44, gA45, iA46, iB47, iC48, iD49, gK50⟩, hC51⟩ := u42 _ _ _ rfl rfl
        refine hx_if_eq (l := 15) rfl rfl (fun h52 => ?_) (fun h52 => ?_)
        · -- 50
          have hend := ((gr_ol hgq).resolve_left (fun zz => absurd zz.1 (by omega))).2
          refine ax_go 1 (y := (51, [some (.ref o), some (.int lv), some (.int vv), (u3.map Value.int)], [.int vv], w34, 0, 0)) rfl trivial ?_
          exact ax_ret rfl rfl ⟨hx_01 (by omega) (by omega), trivial⟩ ⟨some (.int vv), _, rfl, hw35, hf36, hs38, (hx_ti (G := G) (lo := 0) (hi := 1) (by omega) (by omega)), (fun o1 l1 h1 => by cases h1; exact ⟨gN43, by omega, ⟨_, gA45, iA46, iB47, iC48, iD49, gK50⟩⟩)⟩
        · -- 15
          obtain ⟨m1, y1, hm1, hz1, hz2⟩ := ((gr_ol hgq).resolve_right (fun zz => zz.1 (by omega))).2
          have lt1 := gc_lt (c := cf f) (e := e.toInt.toNat) (p := gq.toInt.toNat) (by omega)
          refine ax_go 2 (y := (17, [some (.ref o), some (.int lv), some (.int vv), (u3.map Value.int)], [.int lv, .ref o], w34, 0, 0)) rfl trivial ?_
          refine hx_if_eq (l := 20) rfl rfl (fun h53 => ?_) (fun h53 => ?_)
          · -- 28
            refine hx_k (l := 29) (m := 0) rfl rfl (by decide) (fun z54 h55 => ?_)
            refine hx_pi (l := 32) (as := [.ref o, .int z54]) rfl rfl (hx_iv (j := 180) (n := 1) (o := o) (r := []) rfl rfl gA45 rfl) (ihbothOf m1 (by omega) b pk f e io gN43 y1 (d + 5) he ⟨by omega, by omega⟩ (by rw [show gN43.toInt.toNat = gq.toInt.toNat + 1 by omega]; exact hz1) (by omega)) hw35 hf36 ⟨(hx_tr (G := G) (s := 30) (b := 0) hG0 (by decide)), (hx_ti (G := G) (lo := 0) (hi := 1) (by omega) (by omega)), trivial⟩ (fun o1 l1 h1 => by cases h1; exact ⟨_, gA45, iA46, iB47, iC48, iD49, gK50⟩) (fun w56 z61 hw57 hf58 m59 a62 b63 u64 => ?_)
            have hs60 := ty_same_tr hs38 m59
            obtain ⟨gN65, hN66, fsN67, gA68, iA69, iB70, iC71, iD72, gK73⟩ := u64 _ _ rfl
            have le74 := gr_le hz1 (by omega)
            refine ax_go 2 (y := (34, [some (.ref o), some (.int lv), some (.int vv), some (.int z61)], [.int vv], w56, 0, 0)) rfl trivial ?_
            refine hx_if_ne (l := 37) rfl rfl (fun h75 => ?_) (fun h75 => ?_)
            · -- 41
              refine hx_k (l := 42) (m := 1) rfl rfl (by decide) (fun z76 h77 => ?_)
              refine ax_go 3 (y := (6, [some (.ref o), some (.int lv), some (.int z76), some (.int z61)], [], w56, 0, 0)) rfl trivial ?_
              exact ih6 w56 z76 (some z61) gN65 m1 hw57 hf58 hs60 ⟨_, gA68, iB70⟩ ⟨_, gA68, iA69⟩ ⟨_, gA68, iC71⟩ ⟨_, gA68, iD72⟩ gK73 (by rw [show gN65.toInt.toNat = y1 by omega]; exact hz2) (by omega) (by omega) (by omega) (by omega) (by omega) (by omega)
            · -- 37
              refine ax_go 1 (y := (38, [some (.ref o), some (.int lv), some (.int vv), some (.int z61)], [.int z61], w56, 0, 0)) rfl trivial ?_
              refine hx_if_eq (l := 41) rfl rfl (fun h78 => ?_) (fun h78 => ?_)
              · -- 45
                refine hx_k (l := 46) (m := 0) rfl rfl (by decide) (fun z79 h80 => ?_)
                refine ax_go 2 (y := (6, [some (.ref o), some (.int lv), some (.int z79), some (.int z61)], [], w56, 0, 0)) rfl trivial ?_
                exact ih6 w56 z79 (some z61) gN65 m1 hw57 hf58 hs60 ⟨_, gA68, iB70⟩ ⟨_, gA68, iA69⟩ ⟨_, gA68, iC71⟩ ⟨_, gA68, iD72⟩ gK73 (by rw [show gN65.toInt.toNat = y1 by omega]; exact hz2) (by omega) (by omega) (by omega) (by omega) (by omega) (by omega)
              · -- 41
                refine hx_k (l := 42) (m := 1) rfl rfl (by decide) (fun z81 h82 => ?_)
                refine ax_go 3 (y := (6, [some (.ref o), some (.int lv), some (.int z81), some (.int z61)], [], w56, 0, 0)) rfl trivial ?_
                exact ih6 w56 z81 (some z61) gN65 m1 hw57 hf58 hs60 ⟨_, gA68, iB70⟩ ⟨_, gA68, iA69⟩ ⟨_, gA68, iC71⟩ ⟨_, gA68, iD72⟩ gK73 (by rw [show gN65.toInt.toNat = y1 by omega]; exact hz2) (by omega) (by omega) (by omega) (by omega) (by omega) (by omega)
          · -- 20
            refine ax_go 1 (y := (21, [some (.ref o), some (.int lv), some (.int vv), (u3.map Value.int)], [.int vv, .ref o], w34, 0, 0)) rfl trivial ?_
            refine hx_if_ne (l := 24) rfl rfl (fun h83 => ?_) (fun h83 => ?_)
            · -- 28
              refine hx_k (l := 29) (m := 0) rfl rfl (by decide) (fun z84 h85 => ?_)
              refine hx_pi (l := 32) (as := [.ref o, .int z84]) rfl rfl (hx_iv (j := 180) (n := 1) (o := o) (r := []) rfl rfl gA45 rfl) (ihbothOf m1 (by omega) b pk f e io gN43 y1 (d + 5) he ⟨by omega, by omega⟩ (by rw [show gN43.toInt.toNat = gq.toInt.toNat + 1 by omega]; exact hz1) (by omega)) hw35 hf36 ⟨(hx_tr (G := G) (s := 30) (b := 0) hG0 (by decide)), (hx_ti (G := G) (lo := 0) (hi := 1) (by omega) (by omega)), trivial⟩ (fun o1 l1 h1 => by cases h1; exact ⟨_, gA45, iA46, iB47, iC48, iD49, gK50⟩) (fun w86 z91 hw87 hf88 m89 a92 b93 u94 => ?_)
              have hs90 := ty_same_tr hs38 m89
              obtain ⟨gN95, hN96, fsN97, gA98, iA99, iB100, iC101, iD102, gK103⟩ := u94 _ _ rfl
              have le104 := gr_le hz1 (by omega)
              refine ax_go 2 (y := (34, [some (.ref o), some (.int lv), some (.int vv), some (.int z91)], [.int vv], w86, 0, 0)) rfl trivial ?_
              refine hx_if_ne (l := 37) rfl rfl (fun h105 => ?_) (fun h105 => ?_)
              · -- 41
                refine hx_k (l := 42) (m := 1) rfl rfl (by decide) (fun z106 h107 => ?_)
                refine ax_go 3 (y := (6, [some (.ref o), some (.int lv), some (.int z106), some (.int z91)], [], w86, 0, 0)) rfl trivial ?_
                exact ih6 w86 z106 (some z91) gN95 m1 hw87 hf88 hs90 ⟨_, gA98, iB100⟩ ⟨_, gA98, iA99⟩ ⟨_, gA98, iC101⟩ ⟨_, gA98, iD102⟩ gK103 (by rw [show gN95.toInt.toNat = y1 by omega]; exact hz2) (by omega) (by omega) (by omega) (by omega) (by omega) (by omega)
              · -- 37
                refine ax_go 1 (y := (38, [some (.ref o), some (.int lv), some (.int vv), some (.int z91)], [.int z91], w86, 0, 0)) rfl trivial ?_
                refine hx_if_eq (l := 41) rfl rfl (fun h108 => ?_) (fun h108 => ?_)
                · -- 45
                  refine hx_k (l := 46) (m := 0) rfl rfl (by decide) (fun z109 h110 => ?_)
                  refine ax_go 2 (y := (6, [some (.ref o), some (.int lv), some (.int z109), some (.int z91)], [], w86, 0, 0)) rfl trivial ?_
                  exact ih6 w86 z109 (some z91) gN95 m1 hw87 hf88 hs90 ⟨_, gA98, iB100⟩ ⟨_, gA98, iA99⟩ ⟨_, gA98, iC101⟩ ⟨_, gA98, iD102⟩ gK103 (by rw [show gN95.toInt.toNat = y1 by omega]; exact hz2) (by omega) (by omega) (by omega) (by omega) (by omega) (by omega)
                · -- 41
                  refine hx_k (l := 42) (m := 1) rfl rfl (by decide) (fun z111 h112 => ?_)
                  refine ax_go 3 (y := (6, [some (.ref o), some (.int lv), some (.int z111), some (.int z91)], [], w86, 0, 0)) rfl trivial ?_
                  exact ih6 w86 z111 (some z91) gN95 m1 hw87 hf88 hs90 ⟨_, gA98, iB100⟩ ⟨_, gA98, iA99⟩ ⟨_, gA98, iC101⟩ ⟨_, gA98, iD102⟩ gK103 (by rw [show gN95.toInt.toNat = y1 by omega]; exact hz2) (by omega) (by omega) (by omega) (by omega) (by omega) (by omega)
            · -- 24
              refine hx_k (l := 25) (m := 1) rfl rfl (by decide) (fun z113 h114 => ?_)
              refine ax_go 1 (y := (29, [some (.ref o), some (.int lv), some (.int vv), (u3.map Value.int)], [.int z113, .ref o], w34, 0, 0)) rfl trivial ?_
              refine hx_pi (l := 32) (as := [.ref o, .int z113]) rfl rfl (hx_iv (j := 180) (n := 1) (o := o) (r := []) rfl rfl gA45 rfl) (ihbothOf m1 (by omega) b pk f e io gN43 y1 (d + 5) he ⟨by omega, by omega⟩ (by rw [show gN43.toInt.toNat = gq.toInt.toNat + 1 by omega]; exact hz1) (by omega)) hw35 hf36 ⟨(hx_tr (G := G) (s := 30) (b := 0) hG0 (by decide)), (hx_ti (G := G) (lo := 0) (hi := 1) (by omega) (by omega)), trivial⟩ (fun o1 l1 h1 => by cases h1; exact ⟨_, gA45, iA46, iB47, iC48, iD49, gK50⟩) (fun w115 z120 hw116 hf117 m118 a121 b122 u123 => ?_)
              have hs119 := ty_same_tr hs38 m118
              obtain ⟨gN124, hN125, fsN126, gA127, iA128, iB129, iC130, iD131, gK132⟩ := u123 _ _ rfl
              have le133 := gr_le hz1 (by omega)
              refine ax_go 2 (y := (34, [some (.ref o), some (.int lv), some (.int vv), some (.int z120)], [.int vv], w115, 0, 0)) rfl trivial ?_
              refine hx_if_ne (l := 37) rfl rfl (fun h134 => ?_) (fun h134 => ?_)
              · -- 41
                refine hx_k (l := 42) (m := 1) rfl rfl (by decide) (fun z135 h136 => ?_)
                refine ax_go 3 (y := (6, [some (.ref o), some (.int lv), some (.int z135), some (.int z120)], [], w115, 0, 0)) rfl trivial ?_
                exact ih6 w115 z135 (some z120) gN124 m1 hw116 hf117 hs119 ⟨_, gA127, iB129⟩ ⟨_, gA127, iA128⟩ ⟨_, gA127, iC130⟩ ⟨_, gA127, iD131⟩ gK132 (by rw [show gN124.toInt.toNat = y1 by omega]; exact hz2) (by omega) (by omega) (by omega) (by omega) (by omega) (by omega)
              · -- 37
                refine ax_go 1 (y := (38, [some (.ref o), some (.int lv), some (.int vv), some (.int z120)], [.int z120], w115, 0, 0)) rfl trivial ?_
                refine hx_if_eq (l := 41) rfl rfl (fun h137 => ?_) (fun h137 => ?_)
                · -- 45
                  refine hx_k (l := 46) (m := 0) rfl rfl (by decide) (fun z138 h139 => ?_)
                  refine ax_go 2 (y := (6, [some (.ref o), some (.int lv), some (.int z138), some (.int z120)], [], w115, 0, 0)) rfl trivial ?_
                  exact ih6 w115 z138 (some z120) gN124 m1 hw116 hf117 hs119 ⟨_, gA127, iB129⟩ ⟨_, gA127, iA128⟩ ⟨_, gA127, iC130⟩ ⟨_, gA127, iD131⟩ gK132 (by rw [show gN124.toInt.toNat = y1 by omega]; exact hz2) (by omega) (by omega) (by omega) (by omega) (by omega) (by omega)
                · -- 41
                  refine hx_k (l := 42) (m := 1) rfl rfl (by decide) (fun z140 h141 => ?_)
                  refine ax_go 3 (y := (6, [some (.ref o), some (.int lv), some (.int z140), some (.int z120)], [], w115, 0, 0)) rfl trivial ?_
                  exact ih6 w115 z140 (some z120) gN124 m1 hw116 hf117 hs119 ⟨_, gA127, iB129⟩ ⟨_, gA127, iA128⟩ ⟨_, gA127, iC130⟩ ⟨_, gA127, iD131⟩ gK132 (by rw [show gN124.toInt.toNat = y1 by omega]; exact hz2) (by omega) (by omega) (by omega) (by omega) (by omega) (by omega)
    change ab_wp ro (ab_Ev ro ab_codes (d + 5)) 9 false (some .boolean) ab_k_X9_testOf (fun o_1 => ∃ v w1, o_1 = (v, w1, 0, 0) ∧ ty_w sp_ G w1 ∧ (F9 G F) w1 ∧ ty_same G fz w w1 ∧ ck_res G (some (0, 0, 1)) v ∧ (evR pk f q e io) ([.ref o, .int lv] : List Value) w v w1) (0, [some (.ref o), some (.int lv), none, none], [], w, 0, 0)
    refine ax_go 2 (y := (2, [some (.ref o), some (.int lv), none, none], [.int lv, .ref o], w, 0, 0)) rfl trivial ?_
    obtain ⟨m0, y0, hm0, hy1, hy2⟩ := gr_test hgr
    refine hx_pi (l := 5) (as := [.ref o, .int lv]) rfl rfl (hx_iv (j := 180) (n := 1) (o := o) (r := []) rfl rfl g0 rfl) (ihbothOf m0 (by omega) b pk f e io g y0 (d + 5) he ⟨by omega, by omega⟩ hy1 (by omega)) hw hf ⟨(hx_tr (G := G) (s := 30) (b := 0) hG0 (by decide)), (hx_ti (G := G) (lo := 0) (hi := 1) (by omega) (by omega)), trivial⟩ (fun o1 l1 h1 => by cases h1; exact ⟨_, g0, i2, i22, i23, i25, gk0⟩) (fun w142 z147 hw143 hf144 m145 a148 b149 u150 => ?_)
    have hs146 := ty_same_tr (ty_same_rf w) m145
    obtain ⟨gN151, hN152, fsN153, gA154, iA155, iB156, iC157, iD158, gK159⟩ := u150 _ _ rfl
    have le160 := gr_le hy1 (by omega)
    refine ax_go 1 (y := (6, [some (.ref o), some (.int lv), some (.int z147), none], [], w142, 0, 0)) rfl trivial ?_
    exact ct6 _ w142 z147 none gN151 m0 hw143 hf144 hs146 ⟨_, gA154, iB156⟩ ⟨_, gA154, iA155⟩ ⟨_, gA154, iC157⟩ ⟨_, gA154, iD158⟩ gK159 (by rw [show gN151.toInt.toNat = y0 by omega]; exact hy2) (by omega) (by omega) (by omega) (by omega) (by omega) (Nat.lt_succ_self _)
def fb_hv_plainOf : List (Nat × Nat) := [(8, 3), (8, 5), (19, 999), (32, 999), (33, 999), (34, 999), (35, 999), (44, 999), (45, 999), (1, 0), (18, 999), (2, 11), (2, 14), (1, 15), (54, 11), (4, 2), (7, 9), (30, 13), (30, 34), (30, 2), (30, 23), (30, 24), (30, 25), (46, 999), (47, 999), (30, 35), (30, 36), (7, 0), (24, 999), (37, 999), (30, 4), (30, 5), (30, 6), (30, 8), (30, 9), (30, 10), (30, 11), (30, 14), (30, 15), (30, 16), (30, 17), (30, 18), (30, 19), (30, 20), (30, 21), (39, 999), (40, 999), (41, 999), (30, 30), (30, 42), (30, 43), (30, 44), (1, 1), (1, 3), (1, 10), (1, 13), (8, 0), (30, 49), (2, 15), (8, 1)]
set_option maxHeartbeats 8000000 in
theorem hv_plainOf {ro : ab_R} {G : Nat → Nat} {fz : List (Nat × Nat)} {F : ab_W → Prop} (hF : ∀ w w', smt G w w' → F w → F w') (d : Nat) {pk : Nat} {f : Nat → Int32} {g e io : Int32} {n b q : Nat} (he : 0 ≤ e.toInt ∧ e.toInt ≤ 2800) (hg : 0 ≤ g.toInt ∧ g.toInt ≤ e.toInt) (hgr : gr (cf f) e.toInt.toNat (decide (io.toInt ≠ 0)) n b 6 g.toInt.toNat = some q) (hD : 6 * b + 10 ≤ d + 6) (ihpositiveOf : ∀ m, m < n → EvK ro G F fz m 5 182 9 (some (0, 0, 1))) (hfz : ∀ q ∈ fz, q ∈ fb_hv_plainOf) : hx_ct ro sp_ G (F9 G F) fz (ab_Ev ro ab_codes (d + 6)) 181 [(2, 30, 0), (0, 0, 1)] (some (0, 0, 1)) (evP pk f g e io) (evR pk f q e io) := by
  have hFF := F9_same hF
  refine hx_hand (d := d + 5) (by decide) (fun as w hw hf has hP => ?_)
  match as, has with
  | [v0, v1], ⟨h0, h1, _⟩ =>
    obtain ⟨o, rfl, _, hG0⟩ := ty_refn h0 rfl rfl
    replace hG0 : G o = 30 := hG0
    obtain ⟨lv, rfl, hl1, hh1⟩ := ty_int h1 rfl
    replace hl1 : (0 : Int) ≤ lv.toInt := hl1
    replace hh1 : lv.toInt ≤ 1 := hh1
    refine ⟨rfl, ?_⟩
    obtain ⟨fs0, g0, i2, i22, i23, i25, gk0⟩ := hP o lv rfl
    have hG_pk : G pk = 32 := hx_sref hw g0 hG0 i2
    have ct2 : ∀ (nq : Nat) (w1 : ab_W) (nt : Int32) (gq : Int32) (mq : Nat), ty_w sp_ G w1 → (F9 G F) w1 → ty_same G fz w w1 → (hx_has w1 o 9 22 (.int gq)) → (hx_has w1 o 9 2 (.ref pk)) → (hx_has w1 o 9 23 (.int e)) → (hx_has w1 o 9 25 (.int io)) → (w1[pk]? = some (.inl (0, 5721, .inl f))) → (gr (cf f) e.toInt.toNat (decide (io.toInt ≠ 0)) mq b 6 gq.toInt.toNat = some q) → (mq ≤ n) → (0 ≤ gq.toInt) → (gq.toInt ≤ e.toInt) → (0 ≤ nt.toInt) → (nt.toInt ≤ 1) → ((mq : Int)).toNat < nq → ab_wp ro (ab_Ev ro ab_codes (d + 5)) 9 false (some .boolean) ab_k_X9_plainOf (fun o_1 => ∃ v w1, o_1 = (v, w1, 0, 0) ∧ ty_w sp_ G w1 ∧ (F9 G F) w1 ∧ ty_same G fz w w1 ∧ ck_res G (some (0, 0, 1)) v ∧ (evR pk f q e io) ([.ref o, .int lv] : List Value) w v w1) (2, [some (.ref o), some (.int lv), some (.int nt)], [], w1, 0, 0) := by
      intro nq
      induction nq with
      | zero => intro w1 nt gq mq hw12 hf13 hs14 hh2 hh3 hh4 hh5 g6 hgq i7 i8 i9 i10 i11 hm; exact absurd hm (Nat.not_lt_zero _)
      | succ nq ih2 =>
        intro w1 nt gq mq hw12 hf13 hs14 hh2 hh3 hh4 hh5 g6 hgq i7 i8 i9 i10 i11 hm2
        obtain ⟨fs15, g16, e17⟩ := hh2
        have q18 := hx_oq hw12 g16 hG0 (s := 30) rfl
        obtain ⟨x19, e20, a21, b22⟩ := hx_fi (k := 22) (lo := (-2147483648)) (hi := 2147483647) q18 rfl
        obtain rfl : gq = x19 := hx_inji e17 e20
        obtain ⟨fs23, g24, e25⟩ := hh3
        obtain rfl : fs15 = fs23 := hx_inj g16 g24
        obtain ⟨fs26, g27, e28⟩ := hh4
        obtain rfl : fs15 = fs26 := hx_inj g16 g27
        obtain ⟨fs29, g30, e31⟩ := hh5
        obtain rfl : fs15 = fs29 := hx_inj g16 g30
        refine ax_go 1 (y := (3, [some (.ref o), some (.int lv), some (.int nt)], [.ref o], w1, 0, 0)) rfl trivial ?_
        refine hx_k (l := 5) (m := 8) rfl rfl (by decide) (fun z32 h33 => ?_)
        refine hx_pi (l := 8) (as := [.ref o, .int z32]) rfl rfl (hx_iv (j := 173) (n := 1) (o := o) (r := []) rfl rfl g16 rfl) (hp_X9_passes0 (fz := fz) hF (pk := pk) (f := f) (g := gq) (e := e) (io := io) ⟨by omega, by omega⟩ he (fun q hq => (by decide +kernel : ∀ q ∈ fb_hv_plainOf, q ∈ fb_hp_X9_passes0) q (hfz q hq)) (d + 3)) hw12 hf13 ⟨(hx_tr (G := G) (s := 30) (b := 0) hG0 (by decide)), (ck_top_ok (G := G) z32), trivial⟩ (fun o1 l1 h1 => by cases h1; exact ⟨_, g16, e25, e17, e28, e31, g6⟩) (fun w34 z39 hw35 hf36 m37 a40 b41 u42 => ?_)
        have hs38 := ty_same_tr hs14 m37
        obtain ⟨gN43, ⟨fsN44, gA45, iA46, iB47, iC48, iD49, gK50⟩, hC51⟩ := u42 _ _ _ rfl rfl
        refine hx_if_eq (l := 11) rfl rfl (fun h52 => ?_) (fun h52 => ?_)
        · -- 24
          obtain ⟨m1, hm1, hc1⟩ := gr_plain hgq
          have hz2 := (hc1.resolve_left (fun zz => absurd zz.1 (by omega))).2
          refine ax_go 2 (y := (26, [some (.ref o), some (.int lv), some (.int nt)], [.int lv, .ref o], w34, 0, 0)) rfl trivial ?_
          refine hx_pi (l := 29) (as := [.ref o, .int lv]) rfl rfl (hx_iv (j := 182) (n := 1) (o := o) (r := []) rfl rfl gA45 rfl) (ihpositiveOf m1 (by omega) b pk f e io gN43 q (d + 5) he ⟨by omega, by omega⟩ (by rw [show gN43.toInt.toNat = gq.toInt.toNat by omega]; exact hz2) (by omega)) hw35 hf36 ⟨(hx_tr (G := G) (s := 30) (b := 0) hG0 (by decide)), (hx_ti (G := G) (lo := 0) (hi := 1) (by omega) (by omega)), trivial⟩ (fun o1 l1 h1 => by cases h1; exact ⟨_, gA45, iA46, iB47, iC48, iD49, gK50⟩) (fun w53 z58 hw54 hf55 m56 a59 b60 u61 => ?_)
          have hs57 := ty_same_tr hs38 m56
          obtain ⟨gN62, hN63, fsN64, gA65, iA66, iB67, iC68, iD69, gK70⟩ := u61 _ _ rfl
          have le71 := gr_le hz2 (by omega)
          refine ax_go 1 (y := (30, [some (.ref o), some (.int lv), some (.int nt)], [.int nt, .int z58], w53, 0, 0)) rfl trivial ?_
          refine hx_ic_eq (l := 33) rfl rfl (fun h72 => ?_) (fun h72 => ?_)
          · -- 37
            refine hx_k (l := 38) (m := 0) rfl rfl (by decide) (fun z73 h74 => ?_)
            exact ax_ret rfl rfl ⟨hx_01 (by omega) (by omega), trivial⟩ ⟨some (.int z73), _, rfl, hw54, hf55, hs57, (hx_ti (G := G) (lo := 0) (hi := 1) (by omega) (by omega)), (fun o1 l1 h1 => by cases h1; exact ⟨gN62, by omega, ⟨_, gA65, iA66, iB67, iC68, iD69, gK70⟩⟩)⟩
          · -- 33
            refine hx_k (l := 34) (m := 1) rfl rfl (by decide) (fun z75 h76 => ?_)
            refine ax_go 1 (y := (38, [some (.ref o), some (.int lv), some (.int nt)], [.int z75], w53, 0, 0)) rfl trivial ?_
            exact ax_ret rfl rfl ⟨hx_01 (by omega) (by omega), trivial⟩ ⟨some (.int z75), _, rfl, hw54, hf55, hs57, (hx_ti (G := G) (lo := 0) (hi := 1) (by omega) (by omega)), (fun o1 l1 h1 => by cases h1; exact ⟨gN62, by omega, ⟨_, gA65, iA66, iB67, iC68, iD69, gK70⟩⟩)⟩
        · -- 11
          obtain ⟨m1, hm1, hc1⟩ := gr_plain hgq
          have hz2 := (hc1.resolve_right (fun zz => zz.1 (by omega))).2
          have lt1 := gc_lt (c := cf f) (e := e.toInt.toNat) (p := gq.toInt.toNat) (by omega)
          refine ax_go 1 (y := (12, [some (.ref o), some (.int lv), some (.int nt)], [.int nt], w34, 0, 0)) rfl trivial ?_
          refine hx_if_ne (l := 15) rfl rfl (fun h77 => ?_) (fun h77 => ?_)
          · -- 19
            refine hx_k (l := 20) (m := 0) rfl rfl (by decide) (fun z78 h79 => ?_)
            refine ax_go 2 (y := (2, [some (.ref o), some (.int lv), some (.int z78)], [], w34, 0, 0)) rfl trivial ?_
            exact ih2 w34 z78 gN43 m1 hw35 hf36 hs38 ⟨_, gA45, iB47⟩ ⟨_, gA45, iA46⟩ ⟨_, gA45, iC48⟩ ⟨_, gA45, iD49⟩ gK50 (by rw [show gN43.toInt.toNat = gq.toInt.toNat + 1 by omega]; exact hz2) (by omega) (by omega) (by omega) (by omega) (by omega) (by omega)
          · -- 15
            refine hx_k (l := 16) (m := 1) rfl rfl (by decide) (fun z80 h81 => ?_)
            refine ax_go 3 (y := (2, [some (.ref o), some (.int lv), some (.int z80)], [], w34, 0, 0)) rfl trivial ?_
            exact ih2 w34 z80 gN43 m1 hw35 hf36 hs38 ⟨_, gA45, iB47⟩ ⟨_, gA45, iA46⟩ ⟨_, gA45, iC48⟩ ⟨_, gA45, iD49⟩ gK50 (by rw [show gN43.toInt.toNat = gq.toInt.toNat + 1 by omega]; exact hz2) (by omega) (by omega) (by omega) (by omega) (by omega) (by omega)
    change ab_wp ro (ab_Ev ro ab_codes (d + 5)) 9 false (some .boolean) ab_k_X9_plainOf (fun o_1 => ∃ v w1, o_1 = (v, w1, 0, 0) ∧ ty_w sp_ G w1 ∧ (F9 G F) w1 ∧ ty_same G fz w w1 ∧ ck_res G (some (0, 0, 1)) v ∧ (evR pk f q e io) ([.ref o, .int lv] : List Value) w v w1) (0, [some (.ref o), some (.int lv), none], [], w, 0, 0)
    refine hx_k (l := 1) (m := 0) rfl rfl (by decide) (fun z82 h83 => ?_)
    refine ax_go 1 (y := (2, [some (.ref o), some (.int lv), some (.int z82)], [], w, 0, 0)) rfl trivial ?_
    exact ct2 _ w z82 g n hw hf (ty_same_rf w) ⟨_, g0, i22⟩ ⟨_, g0, i2⟩ ⟨_, g0, i23⟩ ⟨_, g0, i25⟩ gk0 (by rw [show g.toInt.toNat = g.toInt.toNat by omega]; exact hgr) (by omega) (by omega) (by omega) (by omega) (by omega) (Nat.lt_succ_self _)
def fb_hv_positiveOf : List (Nat × Nat) := [(8, 3), (8, 5), (19, 999), (32, 999), (33, 999), (34, 999), (35, 999), (44, 999), (45, 999), (1, 0), (18, 999), (2, 11), (2, 14), (1, 15), (54, 11), (4, 2), (7, 9), (30, 13), (30, 34), (30, 2), (30, 23), (30, 24), (30, 25), (46, 999), (47, 999), (30, 35), (30, 36), (7, 0), (24, 999), (37, 999), (30, 4), (30, 5), (30, 6), (30, 8), (30, 9), (30, 10), (30, 11), (30, 14), (30, 15), (30, 16), (30, 17), (30, 18), (30, 19), (30, 20), (30, 21), (39, 999), (40, 999), (41, 999), (30, 30), (30, 42), (30, 43), (30, 44), (1, 1), (1, 3), (1, 10), (1, 13), (8, 0), (30, 49), (2, 15), (8, 1)]
set_option maxHeartbeats 8000000 in
theorem hv_positiveOf {ro : ab_R} {G : Nat → Nat} {fz : List (Nat × Nat)} {F : ab_W → Prop} (hF : ∀ w w', smt G w w' → F w → F w') (d : Nat) {pk : Nat} {f : Nat → Int32} {g e io : Int32} {n b q : Nat} (he : 0 ≤ e.toInt ∧ e.toInt ≤ 2800) (hg : 0 ≤ g.toInt ∧ g.toInt ≤ e.toInt) (hgr : gr (cf f) e.toInt.toNat (decide (io.toInt ≠ 0)) n b 5 g.toInt.toNat = some q) (hD : 6 * b + 9 ≤ d + 6) (ihtestOf : ∀ m, m < n → EvK ro G F fz m 9 179 12 (some (0, 0, 1))) (ihsumOf : ∀ m, m < n → EvK ro G F fz m 2 175 8 (some (1, (-9223372036854775808), 9223372036854775807))) (hfz : ∀ q ∈ fz, q ∈ fb_hv_positiveOf) : hx_ct ro sp_ G (F9 G F) fz (ab_Ev ro ab_codes (d + 6)) 182 [(2, 30, 0), (0, 0, 1)] (some (0, 0, 1)) (evP pk f g e io) (evR pk f q e io) := by
  have hFF := F9_same hF
  refine hx_hand (d := d + 5) (by decide) (fun as w hw hf has hP => ?_)
  match as, has with
  | [v0, v1], ⟨h0, h1, _⟩ =>
    obtain ⟨o, rfl, _, hG0⟩ := ty_refn h0 rfl rfl
    replace hG0 : G o = 30 := hG0
    obtain ⟨lv, rfl, hl1, hh1⟩ := ty_int h1 rfl
    replace hl1 : (0 : Int) ≤ lv.toInt := hl1
    replace hh1 : lv.toInt ≤ 1 := hh1
    refine ⟨rfl, ?_⟩
    obtain ⟨fs0, g0, i2, i22, i23, i25, gk0⟩ := hP o lv rfl
    have hG_pk : G pk = 32 := hx_sref hw g0 hG0 i2
    change ab_wp ro (ab_Ev ro ab_codes (d + 5)) 9 false (some .boolean) ab_k_X9_positiveOf (fun o_1 => ∃ v w1, o_1 = (v, w1, 0, 0) ∧ ty_w sp_ G w1 ∧ (F9 G F) w1 ∧ ty_same G fz w w1 ∧ ck_res G (some (0, 0, 1)) v ∧ (evR pk f q e io) ([.ref o, .int lv] : List Value) w v w1) (0, [some (.ref o), some (.int lv), none, none, none, none, none], [], w, 0, 0)
    obtain ⟨m0, hm0, hpt⟩ := gr_pos hgr
    refine ax_go 1 (y := (1, [some (.ref o), some (.int lv), none, none, none, none, none], [.ref o], w, 0, 0)) rfl trivial ?_
    refine hx_k (l := 3) (m := 40) rfl rfl (by decide) (fun z1 h2 => ?_)
    refine hx_pi (l := 6) (as := [.int z1]) rfl rfl rfl (hp_X9_sign (fz := fz) hF (fun q hq => (by decide +kernel : ∀ q ∈ fb_hv_positiveOf, q ∈ fb_hp_X9_sign) q (hfz q hq)) (d + 4)) hw hf ⟨(hx_ti (G := G) (lo := 0) (hi := 255) (by omega) (by omega)), trivial⟩ trivial (fun w3 z8 hw4 hf5 m6 a9 b10 u11 => ?_)
    rw [u11.1]
    have u12 := u11.2 _ _ rfl rfl
    refine hx_pi (l := 9) (as := [.ref o, .int z8]) rfl rfl (hx_iv (j := 173) (n := 1) (o := o) (r := []) rfl rfl g0 rfl) (hp_X9_passes0 (fz := fz) hF (pk := pk) (f := f) (g := g) (e := e) (io := io) ⟨by omega, by omega⟩ he (fun q hq => (by decide +kernel : ∀ q ∈ fb_hv_positiveOf, q ∈ fb_hp_X9_passes0) q (hfz q hq)) (d + 3)) hw hf ⟨(hx_tr (G := G) (s := 30) (b := 0) hG0 (by decide)), (ck_top_ok (G := G) z8), trivial⟩ (fun o1 l1 h1 => by cases h1; exact ⟨_, g0, i2, i22, i23, i25, gk0⟩) (fun w13 z18 hw14 hf15 m16 a19 b20 u21 => ?_)
    have hs17 := ty_same_tr (ty_same_rf w) m16
    obtain ⟨gN22, ⟨fsN23, gA24, iA25, iB26, iC27, iD28, gK29⟩, hC30⟩ := u21 _ _ _ rfl rfl
    refine hx_if_eq (l := 12) rfl rfl (fun h31 => ?_) (fun h31 => ?_)
    · -- 30
      obtain ⟨zz, y0, hy1, hy2, hy3⟩ := hpt.resolve_left (fun zz => absurd zz.1 (by omega))
      have lt2 := gc_lt (c := cf f) (e := e.toInt.toNat) (p := y0) (by omega)
      refine ax_go 2 (y := (32, [some (.ref o), some (.int lv), none, none, none, none, none], [.int lv, .ref o], w13, 0, 0)) rfl trivial ?_
      refine hx_pj (l := 35) (as := [.ref o, .int lv]) rfl rfl (hx_iv (j := 175) (n := 1) (o := o) (r := []) rfl rfl gA24 rfl) (ihsumOf m0 (by omega) b pk f e io gN22 y0 (d + 5) he ⟨by omega, by omega⟩ (by rw [show gN22.toInt.toNat = g.toInt.toNat by omega]; exact hy1) (by omega)) hw14 hf15 ⟨(hx_tr (G := G) (s := 30) (b := 0) hG0 (by decide)), (hx_ti (G := G) (lo := 0) (hi := 1) (by omega) (by omega)), trivial⟩ (fun o1 l1 h1 => by cases h1; exact ⟨_, gA24, iA25, iB26, iC27, iD28, gK29⟩) (fun w32 z37 hw33 hf34 m35 a38 b39 u40 => ?_)
      have hs36 := ty_same_tr hs17 m35
      obtain ⟨gN41, hN42, fsN43, gA44, iA45, iB46, iC47, iD48, gK49⟩ := u40 _ _ rfl
      have le50 := gr_le hy1 (by omega)
      refine ax_go 3 (y := (38, [some (.ref o), some (.int lv), some (.long z37), none, none, none, none], [.ref o, .ref o], w32, 0, 0)) rfl trivial ?_
      refine hx_gf (l := 41) rfl rfl rfl gA44 iB46 ?_
      refine hx_pi (l := 44) (as := [.ref o, .int gN41]) rfl rfl (hx_iv (j := 172) (n := 1) (o := o) (r := []) rfl rfl gA44 rfl) (hp_X9_codeAt (fz := fz) hF (fun q hq => (by decide +kernel : ∀ q ∈ fb_hv_positiveOf, q ∈ fb_hp_X9_codeAt) q (hfz q hq)) (d + 4)) hw33 hf34 ⟨(hx_tr (G := G) (s := 30) (b := 0) hG0 (by decide)), (ck_top_ok (G := G) gN41), trivial⟩ (fun y0 y1 y2 h1 h2 => by cases h1; obtain ⟨fs1, g1, e1⟩ := h2; obtain rfl := hx_inj gA44 g1; obtain rfl := hx_inji iC47 e1; exact ⟨by omega, by omega⟩) (fun w51 z56 hw52 hf53 m54 a57 b58 u59 => ?_)
      rw [u59.1]
      have u60 := u59.2 _ _ _ _ _ _ rfl ⟨_, gA44, iA45⟩ gK49 ⟨_, gA44, iC47⟩ rfl
      clear u59
      refine ax_go 3 (y := (48, [some (.ref o), some (.int lv), some (.long z37), none, some (.int z56), none, none], [.ref o, .ref o], w32, 0, 0)) rfl trivial ?_
      refine hx_gf (l := 51) rfl rfl rfl gA44 iB46 ?_
      refine hx_k (l := 52) (m := 1) rfl rfl (by decide) (fun z61 h62 => ?_)
      refine hx_add (l := 53) rfl rfl (fun z63 h64 => ?_)
      replace h64 := h64 (by omega) (by omega)
      refine hx_pf (q := (0, 0, 0, 0, (-2147483648), 2147483647)) (s := 30) (l := 56) (v := .int z63) rfl rfl rfl (by decide) rfl rfl rfl hw33 hG0 gA44 trivial (ck_top_ok (G := G) z63) (fun w65 fs66 g67 e68 o69 n70 hw71 n72 => ?_)
      have hs73 := ty_same_tr hs36 (n72 fz (hx_ok hfz (by decide)))
      have hf74 := hFF _ _ (n72 pr_ (by decide)) hf34
      refine ax_go 2 (y := (58, [some (.ref o), some (.int lv), some (.long z37), none, some (.int z56), none, none], [.int lv, .ref o], w65, 0, 0)) rfl trivial ?_
      refine hx_pj (l := 61) (as := [.ref o, .int lv]) rfl rfl (hx_iv (j := 175) (n := 1) (o := o) (r := []) rfl rfl g67 rfl) (ihsumOf m0 (by omega) b pk f e io z63 q (d + 5) he ⟨by omega, by omega⟩ (by rw [show z63.toInt.toNat = y0 + 1 by omega]; exact hy3) (by omega)) hw71 hf74 ⟨(hx_tr (G := G) (s := 30) (b := 0) hG0 (by decide)), (hx_ti (G := G) (lo := 0) (hi := 1) (by omega) (by omega)), trivial⟩ (fun o1 l1 h1 => by cases h1; exact ⟨_, g67, ((o69 2 (by decide)).trans iA45), e68, ((o69 23 (by decide)).trans iC47), ((o69 25 (by decide)).trans iD48), ((n70 _ (hx_ne hG_pk hG0 (by decide))).trans gK49)⟩) (fun w75 z80 hw76 hf77 m78 a81 b82 u83 => ?_)
      have hs79 := ty_same_tr hs73 m78
      obtain ⟨gN84, hN85, fsN86, gA87, iA88, iB89, iC90, iD91, gK92⟩ := u83 _ _ rfl
      have le93 := gr_le hy3 (by omega)
      refine ax_go 2 (y := (64, [some (.ref o), some (.int lv), some (.long z37), none, some (.int z56), some (.long z80), none], [.int lv], w75, 0, 0)) rfl trivial ?_
      refine hx_if_eq (l := 67) rfl rfl (fun h94 => ?_) (fun h94 => ?_)
      · -- 125
        refine hx_k (l := 126) (m := 0) rfl rfl (by decide) (fun z95 h96 => ?_)
        exact ax_ret rfl rfl ⟨hx_01 (by omega) (by omega), trivial⟩ ⟨some (.int z95), _, rfl, hw76, hf77, hs79, (hx_ti (G := G) (lo := 0) (hi := 1) (by omega) (by omega)), (fun o1 l1 h1 => by cases h1; exact ⟨gN84, by omega, ⟨_, gA87, iA88, iB89, iC90, iD91, gK92⟩⟩)⟩
      · -- 67
        refine ax_go 1 (y := (68, [some (.ref o), some (.int lv), some (.long z37), none, some (.int z56), some (.long z80), none], [.ref o], w75, 0, 0)) rfl trivial ?_
        have q97 := hx_oq hw76 gA87 hG0 (s := 30) rfl
        obtain ⟨x98, e99, a100, b101⟩ := hx_fi (k := 24) (lo := 0) (hi := 1) q97 rfl
        refine hx_gf (l := 71) rfl rfl rfl gA87 e99 ?_
        refine hx_if_ne (l := 74) rfl rfl (fun h102 => ?_) (fun h102 => ?_)
        · -- 125
          refine hx_k (l := 126) (m := 0) rfl rfl (by decide) (fun z103 h104 => ?_)
          exact ax_ret rfl rfl ⟨hx_01 (by omega) (by omega), trivial⟩ ⟨some (.int z103), _, rfl, hw76, hf77, hs79, (hx_ti (G := G) (lo := 0) (hi := 1) (by omega) (by omega)), (fun o1 l1 h1 => by cases h1; exact ⟨gN84, by omega, ⟨_, gA87, iA88, iB89, iC90, iD91, gK92⟩⟩)⟩
        · -- 74
          refine ax_go 1 (y := (76, [some (.ref o), some (.int lv), some (.long z37), none, some (.int z56), some (.long z80), none], [.int z56], w75, 0, 0)) rfl trivial ?_
          refine hx_k (l := 78) (m := 60) rfl rfl (by decide) (fun z105 h106 => ?_)
          refine hx_pi (l := 81) (as := [.int z105]) rfl rfl rfl (hp_X9_sign (fz := fz) hF (fun q hq => (by decide +kernel : ∀ q ∈ fb_hv_positiveOf, q ∈ fb_hp_X9_sign) q (hfz q hq)) (d + 4)) hw76 hf77 ⟨(hx_ti (G := G) (lo := 0) (hi := 255) (by omega) (by omega)), trivial⟩ trivial (fun w107 z112 hw108 hf109 m110 a113 b114 u115 => ?_)
          rw [u115.1]
          have u116 := u115.2 _ _ rfl rfl
          refine hx_ic_ne (l := 84) rfl rfl (fun h117 => ?_) (fun h117 => ?_)
          · -- 94
            refine ax_go 1 (y := (96, [some (.ref o), some (.int lv), some (.long z37), none, some (.int z56), some (.long z80), none], [.int z56], w75, 0, 0)) rfl trivial ?_
            refine hx_k (l := 98) (m := 62) rfl rfl (by decide) (fun z118 h119 => ?_)
            refine hx_pi (l := 101) (as := [.int z118]) rfl rfl rfl (hp_X9_sign (fz := fz) hF (fun q hq => (by decide +kernel : ∀ q ∈ fb_hv_positiveOf, q ∈ fb_hp_X9_sign) q (hfz q hq)) (d + 4)) hw76 hf77 ⟨(hx_ti (G := G) (lo := 0) (hi := 255) (by omega) (by omega)), trivial⟩ trivial (fun w120 z125 hw121 hf122 m123 a126 b127 u128 => ?_)
            rw [u128.1]
            have u129 := u128.2 _ _ rfl rfl
            refine hx_ic_ne (l := 104) rfl rfl (fun h130 => ?_) (fun h130 => ?_)
            · -- 114
              refine ax_go 2 (y := (117, [some (.ref o), some (.int lv), some (.long z37), none, some (.int z56), some (.long z80), none], [.long z80, .long z37], w75, 0, 0)) rfl trivial ?_
              refine hx_lcmp (l := 118) rfl rfl (fun z131 h132 => ?_)
              refine hx_if_ne (l := 121) rfl rfl (fun h133 => ?_) (fun h133 => ?_)
              · -- 125
                refine hx_k (l := 126) (m := 0) rfl rfl (by decide) (fun z134 h135 => ?_)
                exact ax_ret rfl rfl ⟨hx_01 (by omega) (by omega), trivial⟩ ⟨some (.int z134), _, rfl, hw76, hf77, hs79, (hx_ti (G := G) (lo := 0) (hi := 1) (by omega) (by omega)), (fun o1 l1 h1 => by cases h1; exact ⟨gN84, by omega, ⟨_, gA87, iA88, iB89, iC90, iD91, gK92⟩⟩)⟩
              · -- 121
                refine hx_k (l := 122) (m := 1) rfl rfl (by decide) (fun z136 h137 => ?_)
                refine ax_go 1 (y := (126, [some (.ref o), some (.int lv), some (.long z37), none, some (.int z56), some (.long z80), none], [.int z136], w75, 0, 0)) rfl trivial ?_
                exact ax_ret rfl rfl ⟨hx_01 (by omega) (by omega), trivial⟩ ⟨some (.int z136), _, rfl, hw76, hf77, hs79, (hx_ti (G := G) (lo := 0) (hi := 1) (by omega) (by omega)), (fun o1 l1 h1 => by cases h1; exact ⟨gN84, by omega, ⟨_, gA87, iA88, iB89, iC90, iD91, gK92⟩⟩)⟩
            · -- 104
              refine ax_go 2 (y := (107, [some (.ref o), some (.int lv), some (.long z37), none, some (.int z56), some (.long z80), none], [.long z80, .long z37], w75, 0, 0)) rfl trivial ?_
              refine hx_lcmp (l := 108) rfl rfl (fun z138 h139 => ?_)
              refine hx_if_le (l := 111) rfl rfl (fun h140 => ?_) (fun h140 => ?_)
              · -- 125
                refine hx_k (l := 126) (m := 0) rfl rfl (by decide) (fun z141 h142 => ?_)
                exact ax_ret rfl rfl ⟨hx_01 (by omega) (by omega), trivial⟩ ⟨some (.int z141), _, rfl, hw76, hf77, hs79, (hx_ti (G := G) (lo := 0) (hi := 1) (by omega) (by omega)), (fun o1 l1 h1 => by cases h1; exact ⟨gN84, by omega, ⟨_, gA87, iA88, iB89, iC90, iD91, gK92⟩⟩)⟩
              · -- 111
                refine ax_go 1 (y := (121, [some (.ref o), some (.int lv), some (.long z37), none, some (.int z56), some (.long z80), none], [], w75, 0, 0)) rfl trivial ?_
                refine hx_k (l := 122) (m := 1) rfl rfl (by decide) (fun z143 h144 => ?_)
                refine ax_go 1 (y := (126, [some (.ref o), some (.int lv), some (.long z37), none, some (.int z56), some (.long z80), none], [.int z143], w75, 0, 0)) rfl trivial ?_
                exact ax_ret rfl rfl ⟨hx_01 (by omega) (by omega), trivial⟩ ⟨some (.int z143), _, rfl, hw76, hf77, hs79, (hx_ti (G := G) (lo := 0) (hi := 1) (by omega) (by omega)), (fun o1 l1 h1 => by cases h1; exact ⟨gN84, by omega, ⟨_, gA87, iA88, iB89, iC90, iD91, gK92⟩⟩)⟩
          · -- 84
            refine ax_go 2 (y := (87, [some (.ref o), some (.int lv), some (.long z37), none, some (.int z56), some (.long z80), none], [.long z80, .long z37], w75, 0, 0)) rfl trivial ?_
            refine hx_lcmp (l := 88) rfl rfl (fun z145 h146 => ?_)
            refine hx_if_ge (l := 91) rfl rfl (fun h147 => ?_) (fun h147 => ?_)
            · -- 125
              refine hx_k (l := 126) (m := 0) rfl rfl (by decide) (fun z148 h149 => ?_)
              exact ax_ret rfl rfl ⟨hx_01 (by omega) (by omega), trivial⟩ ⟨some (.int z148), _, rfl, hw76, hf77, hs79, (hx_ti (G := G) (lo := 0) (hi := 1) (by omega) (by omega)), (fun o1 l1 h1 => by cases h1; exact ⟨gN84, by omega, ⟨_, gA87, iA88, iB89, iC90, iD91, gK92⟩⟩)⟩
            · -- 91
              refine ax_go 1 (y := (121, [some (.ref o), some (.int lv), some (.long z37), none, some (.int z56), some (.long z80), none], [], w75, 0, 0)) rfl trivial ?_
              refine hx_k (l := 122) (m := 1) rfl rfl (by decide) (fun z150 h151 => ?_)
              refine ax_go 1 (y := (126, [some (.ref o), some (.int lv), some (.long z37), none, some (.int z56), some (.long z80), none], [.int z150], w75, 0, 0)) rfl trivial ?_
              exact ax_ret rfl rfl ⟨hx_01 (by omega) (by omega), trivial⟩ ⟨some (.int z150), _, rfl, hw76, hf77, hs79, (hx_ti (G := G) (lo := 0) (hi := 1) (by omega) (by omega)), (fun o1 l1 h1 => by cases h1; exact ⟨gN84, by omega, ⟨_, gA87, iA88, iB89, iC90, iD91, gK92⟩⟩)⟩
    · -- 12
      obtain ⟨zz, b1, y0, hb1, hy1, hy2, hq⟩ := hpt.resolve_right (fun zz => zz.1 (by omega))
      have lt0 := gc_lt (c := cf f) (e := e.toInt.toNat) (p := g.toInt.toNat) (by omega)
      refine ax_go 2 (y := (14, [some (.ref o), some (.int lv), none, none, none, none, none], [.int lv, .ref o], w13, 0, 0)) rfl trivial ?_
      refine hx_pi (l := 17) (as := [.ref o, .int lv]) rfl rfl (hx_iv (j := 179) (n := 1) (o := o) (r := []) rfl rfl gA24 rfl) (ihtestOf m0 (by omega) b1 pk f e io gN22 y0 (d + 5) he ⟨by omega, by omega⟩ (by rw [show gN22.toInt.toNat = g.toInt.toNat + 1 by omega]; exact hy1) (by omega)) hw14 hf15 ⟨(hx_tr (G := G) (s := 30) (b := 0) hG0 (by decide)), (hx_ti (G := G) (lo := 0) (hi := 1) (by omega) (by omega)), trivial⟩ (fun o1 l1 h1 => by cases h1; exact ⟨_, gA24, iA25, iB26, iC27, iD28, gK29⟩) (fun w152 z157 hw153 hf154 m155 a158 b159 u160 => ?_)
      have hs156 := ty_same_tr hs17 m155
      obtain ⟨gN161, hN162, fsN163, gA164, iA165, iB166, iC167, iD168, gK169⟩ := u160 _ _ rfl
      have le170 := gr_le hy1 (by omega)
      refine ax_go 3 (y := (20, [some (.ref o), some (.int lv), some (.int z157), none, none, none, none], [.ref o, .ref o], w152, 0, 0)) rfl trivial ?_
      refine hx_gf (l := 23) rfl rfl rfl gA164 iB166 ?_
      refine hx_k (l := 24) (m := 1) rfl rfl (by decide) (fun z171 h172 => ?_)
      refine hx_add (l := 25) rfl rfl (fun z173 h174 => ?_)
      replace h174 := h174 (by omega) (by omega)
      refine hx_pf (q := (0, 0, 0, 0, (-2147483648), 2147483647)) (s := 30) (l := 28) (v := .int z173) rfl rfl rfl (by decide) rfl rfl rfl hw153 hG0 gA164 trivial (ck_top_ok (G := G) z173) (fun w175 fs176 g177 e178 o179 n180 hw181 n182 => ?_)
      have hs183 := ty_same_tr hs156 (n182 fz (hx_ok hfz (by decide)))
      have hf184 := hFF _ _ (n182 pr_ (by decide)) hf154
      refine ax_go 1 (y := (29, [some (.ref o), some (.int lv), some (.int z157), none, none, none, none], [.int z157], w175, 0, 0)) rfl trivial ?_
      exact ax_ret rfl rfl ⟨hx_01 (by omega) (by omega), trivial⟩ ⟨some (.int z157), _, rfl, hw181, hf184, hs183, (hx_ti (G := G) (lo := 0) (hi := 1) (by omega) (by omega)), (fun o1 l1 h1 => by cases h1; exact ⟨z173, by omega, ⟨_, g177, ((o179 2 (by decide)).trans iA165), e178, ((o179 23 (by decide)).trans iC167), ((o179 25 (by decide)).trans iD168), ((n180 _ (hx_ne hG_pk hG0 (by decide))).trans gK169)⟩⟩)⟩
def fb_hv_partOf : List (Nat × Nat) := [(8, 3), (8, 5), (19, 999), (32, 999), (33, 999), (34, 999), (35, 999), (44, 999), (45, 999), (1, 0), (18, 999), (2, 11), (2, 14), (1, 15), (54, 11), (4, 2), (7, 9), (30, 13), (30, 34), (30, 2), (30, 23), (30, 24), (30, 25), (46, 999), (47, 999), (30, 35), (30, 36), (7, 0), (24, 999), (37, 999), (30, 4), (30, 5), (30, 6), (30, 8), (30, 9), (30, 10), (30, 11), (30, 14), (30, 15), (30, 16), (30, 17), (30, 18), (30, 19), (30, 20), (30, 21), (39, 999), (40, 999), (41, 999), (30, 30), (30, 42), (30, 43), (30, 44), (1, 1), (1, 3), (1, 10), (1, 13), (8, 0), (30, 49), (2, 15), (8, 1)]
set_option maxHeartbeats 8000000 in
theorem hv_partOf {ro : ab_R} {G : Nat → Nat} {fz : List (Nat × Nat)} {F : ab_W → Prop} (hF : ∀ w w', smt G w w' → F w → F w') (d : Nat) {pk : Nat} {f : Nat → Int32} {g e io : Int32} {n b q : Nat} (he : 0 ≤ e.toInt ∧ e.toInt ≤ 2800) (hg : 0 ≤ g.toInt ∧ g.toInt ≤ e.toInt) (hgr : gr (cf f) e.toInt.toNat (decide (io.toInt ≠ 0)) n b 0 g.toInt.toNat = some q) (hD : 6 * b + 6 ≤ d + 6) (ihsumOf : ∀ m, m < n → EvK ro G F fz m 2 175 8 (some (1, (-9223372036854775808), 9223372036854775807))) (hfz : ∀ q ∈ fz, q ∈ fb_hv_partOf) : hx_ct ro sp_ G (F9 G F) fz (ab_Ev ro ab_codes (d + 6)) 177 [(2, 30, 0), (0, 0, 1)] (some (1, (-9223372036854775808), 9223372036854775807)) (evP pk f g e io) (evR pk f q e io) := by
  have hFF := F9_same hF
  refine hx_hand (d := d + 5) (by decide) (fun as w hw hf has hP => ?_)
  match as, has with
  | [v0, v1], ⟨h0, h1, _⟩ =>
    obtain ⟨o, rfl, _, hG0⟩ := ty_refn h0 rfl rfl
    replace hG0 : G o = 30 := hG0
    obtain ⟨lv, rfl, hl1, hh1⟩ := ty_int h1 rfl
    replace hl1 : (0 : Int) ≤ lv.toInt := hl1
    replace hh1 : lv.toInt ≤ 1 := hh1
    refine ⟨rfl, ?_⟩
    obtain ⟨fs0, g0, i2, i22, i23, i25, gk0⟩ := hP o lv rfl
    have hG_pk : G pk = 32 := hx_sref hw g0 hG0 i2
    change ab_wp ro (ab_Ev ro ab_codes (d + 5)) 9 false (some .long) ab_k_X9_partOf (fun o_1 => ∃ v w1, o_1 = (v, w1, 0, 0) ∧ ty_w sp_ G w1 ∧ (F9 G F) w1 ∧ ty_same G fz w w1 ∧ ck_res G (some (1, (-9223372036854775808), 9223372036854775807)) v ∧ (evR pk f q e io) ([.ref o, .int lv] : List Value) w v w1) (0, [some (.ref o), some (.int lv), none, none], [], w, 0, 0)
    obtain ⟨m0, hm0, hpt⟩ := gr_part hgr
    refine ax_go 1 (y := (1, [some (.ref o), some (.int lv), none, none], [.ref o], w, 0, 0)) rfl trivial ?_
    refine hx_k (l := 3) (m := 91) rfl rfl (by decide) (fun z1 h2 => ?_)
    refine hx_pi (l := 6) (as := [.int z1]) rfl rfl rfl (hp_X9_sign (fz := fz) hF (fun q hq => (by decide +kernel : ∀ q ∈ fb_hv_partOf, q ∈ fb_hp_X9_sign) q (hfz q hq)) (d + 4)) hw hf ⟨(hx_ti (G := G) (lo := 0) (hi := 255) (by omega) (by omega)), trivial⟩ trivial (fun w3 z8 hw4 hf5 m6 a9 b10 u11 => ?_)
    rw [u11.1]
    have u12 := u11.2 _ _ rfl rfl
    refine hx_pi (l := 9) (as := [.ref o, .int z8]) rfl rfl (hx_iv (j := 173) (n := 1) (o := o) (r := []) rfl rfl g0 rfl) (hp_X9_passes0 (fz := fz) hF (pk := pk) (f := f) (g := g) (e := e) (io := io) ⟨by omega, by omega⟩ he (fun q hq => (by decide +kernel : ∀ q ∈ fb_hv_partOf, q ∈ fb_hp_X9_passes0) q (hfz q hq)) (d + 3)) hw hf ⟨(hx_tr (G := G) (s := 30) (b := 0) hG0 (by decide)), (ck_top_ok (G := G) z8), trivial⟩ (fun o1 l1 h1 => by cases h1; exact ⟨_, g0, i2, i22, i23, i25, gk0⟩) (fun w13 z18 hw14 hf15 m16 a19 b20 u21 => ?_)
    have hs17 := ty_same_tr (ty_same_rf w) m16
    obtain ⟨gN22, ⟨fsN23, gA24, iA25, iB26, iC27, iD28, gK29⟩, hC30⟩ := u21 _ _ _ rfl rfl
    refine hx_if_eq (l := 12) rfl rfl (fun h31 => ?_) (fun h31 => ?_)
    · -- 30
      obtain ⟨zz, hleaf, hcase⟩ := hpt.resolve_left (fun zz => absurd zz.1 (by omega))
      have hlf := ev_leaf hleaf
      replace hcase := ev_case hcase
      clear hpt
      have lt0 : g.toInt.toNat < e.toInt.toNat := by
        refine gc_lt (c := cf f) (fun z0 => ?_)
        rcases (show io.toInt = 0 ∨ io.toInt ≠ 0 by omega) with y | y
        · have := hlf.1 y; omega
        · have := hlf.2 y; omega
      refine ax_go 2 (y := (32, [some (.ref o), some (.int lv), none, none], [.ref o, .ref o], w13, 0, 0)) rfl trivial ?_
      refine hx_gf (l := 35) rfl rfl rfl gA24 iB26 ?_
      refine hx_pi (l := 38) (as := [.ref o, .int gN22]) rfl rfl (hx_iv (j := 172) (n := 1) (o := o) (r := []) rfl rfl gA24 rfl) (hp_X9_codeAt (fz := fz) hF (fun q hq => (by decide +kernel : ∀ q ∈ fb_hv_partOf, q ∈ fb_hp_X9_codeAt) q (hfz q hq)) (d + 4)) hw14 hf15 ⟨(hx_tr (G := G) (s := 30) (b := 0) hG0 (by decide)), (ck_top_ok (G := G) gN22), trivial⟩ (fun y0 y1 y2 h1 h2 => by cases h1; obtain ⟨fs1, g1, e1⟩ := h2; obtain rfl := hx_inj gA24 g1; obtain rfl := hx_inji iC27 e1; exact ⟨by omega, by omega⟩) (fun w32 z37 hw33 hf34 m35 a38 b39 u40 => ?_)
      rw [u40.1]
      have u41 := u40.2 _ _ _ _ _ _ rfl ⟨_, gA24, iA25⟩ gK29 ⟨_, gA24, iC27⟩ rfl
      clear u40
      rw [show gN22.toInt.toNat = g.toInt.toNat by omega] at u41
      refine ax_go 1 (y := (39, [some (.ref o), some (.int lv), some (.int z37), none], [], w13, 0, 0)) rfl trivial ?_
      refine hx_k (l := 40) (m := 0) rfl rfl (by decide) (fun z42 h43 => ?_)
      refine ax_go 3 (y := (43, [some (.ref o), some (.int lv), some (.int z37), some (.int z42)], [.ref o, .ref o], w13, 0, 0)) rfl trivial ?_
      refine hx_gf (l := 46) rfl rfl rfl gA24 iB26 ?_
      refine hx_k (l := 47) (m := 1) rfl rfl (by decide) (fun z44 h45 => ?_)
      refine hx_add (l := 48) rfl rfl (fun z46 h47 => ?_)
      replace h47 := h47 (by omega) (by omega)
      refine hx_pf (q := (0, 0, 0, 0, (-2147483648), 2147483647)) (s := 30) (l := 51) (v := .int z46) rfl rfl rfl (by decide) rfl rfl rfl hw14 hG0 gA24 trivial (ck_top_ok (G := G) z46) (fun w48 fs49 g50 e51 o52 n53 hw54 n55 => ?_)
      have hs56 := ty_same_tr hs17 (n55 fz (hx_ok hfz (by decide)))
      have hf57 := hFF _ _ (n55 pr_ (by decide)) hf15
      refine ax_go 1 (y := (52, [some (.ref o), some (.int lv), some (.int z37), some (.int z42)], [.ref o], w48, 0, 0)) rfl trivial ?_
      refine hx_gf (l := 55) rfl rfl rfl g50 ((o52 25 (by decide)).trans iD28) ?_
      refine hx_if_eq (l := 58) rfl rfl (fun h58 => ?_) (fun h58 => ?_)
      · -- 94
        refine ax_go 1 (y := (95, [some (.ref o), some (.int lv), some (.int z37), some (.int z42)], [.int lv], w48, 0, 0)) rfl trivial ?_
        refine hx_if_eq (l := 98) rfl rfl (fun h59 => ?_) (fun h59 => ?_)
        · -- 105
          refine hx_lk (l := 106) (m := 0) rfl rfl (by decide) (fun z60 h61 => ?_)
          exact ax_ret rfl rfl trivial ⟨some (.long z60), _, rfl, hw54, hf57, hs56, (ck_ltop_ok (G := G) z60), (fun o1 l1 h1 => by cases h1; exact ⟨z46, by omega, ⟨_, g50, ((o52 2 (by decide)).trans iA25), e51, ((o52 23 (by decide)).trans iC27), ((o52 25 (by decide)).trans iD28), ((n53 _ (hx_ne hG_pk hG0 (by decide))).trans gK29)⟩⟩)⟩
        · -- 98
          refine ax_go 1 (y := (99, [some (.ref o), some (.int lv), some (.int z37), some (.int z42)], [.ref o], w48, 0, 0)) rfl trivial ?_
          have q62 := hx_oq hw54 g50 hG0 (s := 30) rfl
          obtain ⟨x63, e64, a65, b66⟩ := hx_fi (k := 24) (lo := 0) (hi := 1) q62 rfl
          refine hx_gf (l := 102) rfl rfl rfl g50 e64 ?_
          refine hx_if_eq (l := 105) rfl rfl (fun h67 => ?_) (fun h67 => ?_)
          · -- 107
            refine ax_go 1 (y := (108, [some (.ref o), some (.int lv), some (.int z37), some (.int z42)], [.int z37], w48, 0, 0)) rfl trivial ?_
            refine hx_k (l := 110) (m := 50) rfl rfl (by decide) (fun z68 h69 => ?_)
            refine hx_ic_ne (l := 113) rfl rfl (fun h70 => ?_) (fun h70 => ?_)
            · -- 130
              refine ax_go 1 (y := (131, [some (.ref o), some (.int lv), some (.int z37), some (.int z42)], [.ref o], w48, 0, 0)) rfl trivial ?_
              refine hx_gf (l := 134) rfl rfl rfl g50 ((o52 25 (by decide)).trans iD28) ?_
              refine hx_if_eq (l := 137) rfl rfl (fun h71 => ?_) (fun h71 => ?_)
              · -- 147
                refine ax_go 1 (y := (148, [some (.ref o), some (.int lv), some (.int z37), some (.int z42)], [.ref o], w48, 0, 0)) rfl trivial ?_
                obtain ⟨p72, e73, hG74⟩ := hx_fr (k := 26) (s := 42) q62 rfl
                refine hx_gf (l := 151) rfl rfl rfl g50 e73 ?_
                refine ax_go 1 (y := (152, [some (.ref o), some (.int lv), some (.int z37), some (.int z42)], [.int z37, .ref p72], w48, 0, 0)) rfl trivial ?_
                refine hx_k (l := 154) (m := 9) rfl rfl (by decide) (fun z75 h76 => ?_)
                refine hx_sub (l := 155) rfl rfl (fun z77 h78 => ?_)
                replace h78 := h78 (by omega) (by omega)
                have hl0 := hlf.1 (by omega)
                obtain ⟨f79, g80, r81⟩ := hx_row hw54 hG74 (s := 42) (kd := 0) (n := 8) rfl (by decide)
                refine hx_il (l := 156) rfl rfl g80 (by omega) (by omega) (fun z82 h83 => ?_)
                refine hx_anyl (l := 157) rfl rfl (fun z84 => ?_)
                exact ax_ret rfl rfl trivial ⟨some (.long z84), _, rfl, hw54, hf57, hs56, (ck_ltop_ok (G := G) z84), (fun o1 l1 h1 => by cases h1; exact ⟨z46, by omega, ⟨_, g50, ((o52 2 (by decide)).trans iA25), e51, ((o52 23 (by decide)).trans iC27), ((o52 25 (by decide)).trans iD28), ((n53 _ (hx_ne hG_pk hG0 (by decide))).trans gK29)⟩⟩)⟩
              · -- 137
                refine ax_go 3 (y := (140, [some (.ref o), some (.int lv), some (.int z37), some (.int z42)], [.int z42, .int z37, .ref o], w48, 0, 0)) rfl trivial ?_
                refine hx_ci (l := 143) (as := [.ref o, .int z37, .int z42]) rfl rfl (hx_iv (j := 178) (n := 2) (o := o) (r := []) rfl rfl g50 rfl) (h_X9_orderValue (fz := ([(32, 999), (30, 2), (30, 22), (30, 23), (30, 25)] ++ fz)) hF (hx_app (by decide +kernel) (fun q hq => (by decide +kernel : ∀ q ∈ fb_hv_partOf, q ∈ fb_X9_orderValue) q (hfz q hq))) (d + 2)) hw54 hf57 ⟨(hx_tr (G := G) (s := 30) (b := 0) hG0 (by decide)), (ck_top_ok (G := G) z37), (ck_top_ok (G := G) z42), trivial⟩ (fun w85 z90 hw86 hf87 m88 a91 b92 u93 => ?_)
                have hs89 := ty_same_tr hs56 (hx_sapp m88)
                obtain ⟨fs94, g95, -, q96⟩ := hx_obj hw86 hG0 (s := 30) rfl (by decide)
                refine hx_anyl (l := 144) rfl rfl (fun z97 => ?_)
                refine ax_go 1 (y := (157, [some (.ref o), some (.int lv), some (.int z37), some (.int z42)], [.long z97], w85, 0, 0)) rfl trivial ?_
                exact ax_ret rfl rfl trivial ⟨some (.long z97), _, rfl, hw86, hf87, hs89, (ck_ltop_ok (G := G) z97), (fun o1 l1 h1 => by cases h1; exact ⟨z46, by omega, ⟨_, g95, ((hx_kf m88 (hx_mem hG0 (by decide)) g50 g95).trans ((o52 2 (by decide)).trans iA25)), ((hx_kf m88 (hx_mem hG0 (by decide)) g50 g95).trans e51), ((hx_kf m88 (hx_mem hG0 (by decide)) g50 g95).trans ((o52 23 (by decide)).trans iC27)), ((hx_kf m88 (hx_mem hG0 (by decide)) g50 g95).trans ((o52 25 (by decide)).trans iD28)), ((hx_kr m88 (hx_mem hG_pk (by decide))).trans ((n53 _ (hx_ne hG_pk hG0 (by decide))).trans gK29))⟩⟩)⟩
            · -- 113
              refine ax_go 1 (y := (114, [some (.ref o), some (.int lv), some (.int z37), some (.int z42)], [.ref o], w48, 0, 0)) rfl trivial ?_
              refine hx_gf (l := 117) rfl rfl rfl g50 ((o52 2 (by decide)).trans iA25) ?_
              refine hx_k (l := 120) (m := 2921) rfl rfl (by decide) (fun z98 h99 => ?_)
              refine ax_go 1 (y := (121, [some (.ref o), some (.int lv), some (.int z37), some (.int z42)], [.ref o, .int z98, .ref pk], w48, 0, 0)) rfl trivial ?_
              refine hx_gf (l := 124) rfl rfl rfl g50 e51 ?_
              refine hx_add (l := 125) rfl rfl (fun z100 h101 => ?_)
              replace h101 := h101 (by omega) (by omega)
              refine hx_k (l := 126) (m := 1) rfl rfl (by decide) (fun z102 h103 => ?_)
              refine hx_sub (l := 127) rfl rfl (fun z104 h105 => ?_)
              replace h105 := h105 (by omega) (by omega)
              have r106 := hx_rq hw54 ((n53 _ (hx_ne hG_pk hG0 (by decide))).trans gK29) hG_pk (s := 32) rfl
              refine hx_il (l := 128) rfl rfl ((n53 _ (hx_ne hG_pk hG0 (by decide))).trans gK29) (by omega) (by omega) (fun z107 h108 => ?_)
              refine hx_anyl (l := 129) rfl rfl (fun z109 => ?_)
              exact ax_ret rfl rfl trivial ⟨some (.long z109), _, rfl, hw54, hf57, hs56, (ck_ltop_ok (G := G) z109), (fun o1 l1 h1 => by cases h1; exact ⟨z46, by omega, ⟨_, g50, ((o52 2 (by decide)).trans iA25), e51, ((o52 23 (by decide)).trans iC27), ((o52 25 (by decide)).trans iD28), ((n53 _ (hx_ne hG_pk hG0 (by decide))).trans gK29)⟩⟩)⟩
          · -- 105
            refine hx_lk (l := 106) (m := 0) rfl rfl (by decide) (fun z110 h111 => ?_)
            exact ax_ret rfl rfl trivial ⟨some (.long z110), _, rfl, hw54, hf57, hs56, (ck_ltop_ok (G := G) z110), (fun o1 l1 h1 => by cases h1; exact ⟨z46, by omega, ⟨_, g50, ((o52 2 (by decide)).trans iA25), e51, ((o52 23 (by decide)).trans iC27), ((o52 25 (by decide)).trans iD28), ((n53 _ (hx_ne hG_pk hG0 (by decide))).trans gK29)⟩⟩)⟩
      · -- 58
        refine ax_go 1 (y := (59, [some (.ref o), some (.int lv), some (.int z37), some (.int z42)], [.int z37], w48, 0, 0)) rfl trivial ?_
        refine hx_k (l := 61) (m := 14) rfl rfl (by decide) (fun z112 h113 => ?_)
        refine hx_ic_eq (l := 64) rfl rfl (fun h114 => ?_) (fun h114 => ?_)
        · -- 70
          have hc2 := hcase.resolve_right (fun zz => zz.1 ⟨by omega, by omega⟩)
          have lt2 := gc_lt (c := cf f) (e := e.toInt.toNat) (p := g.toInt.toNat + 1) (by omega)
          refine ax_go 1 (y := (71, [some (.ref o), some (.int lv), some (.int z37), some (.int z42)], [.ref o], w48, 0, 0)) rfl trivial ?_
          refine hx_gf (l := 74) rfl rfl rfl g50 ((o52 2 (by decide)).trans iA25) ?_
          refine hx_k (l := 77) (m := 2921) rfl rfl (by decide) (fun z115 h116 => ?_)
          refine ax_go 1 (y := (78, [some (.ref o), some (.int lv), some (.int z37), some (.int z42)], [.ref o, .int z115, .ref pk], w48, 0, 0)) rfl trivial ?_
          refine hx_gf (l := 81) rfl rfl rfl g50 e51 ?_
          refine hx_add (l := 82) rfl rfl (fun z117 h118 => ?_)
          replace h118 := h118 (by omega) (by omega)
          have r119 := hx_rq hw54 ((n53 _ (hx_ne hG_pk hG0 (by decide))).trans gK29) hG_pk (s := 32) rfl
          refine hx_il (l := 83) rfl rfl ((n53 _ (hx_ne hG_pk hG0 (by decide))).trans gK29) (by omega) (by omega) (fun z120 h121 => ?_)
          refine ax_go 3 (y := (86, [some (.ref o), some (.int lv), some (.int z37), some (.int z120)], [.ref o, .ref o], w48, 0, 0)) rfl trivial ?_
          refine hx_gf (l := 89) rfl rfl rfl g50 e51 ?_
          refine hx_k (l := 90) (m := 1) rfl rfl (by decide) (fun z122 h123 => ?_)
          refine hx_add (l := 91) rfl rfl (fun z124 h125 => ?_)
          replace h125 := h125 (by omega) (by omega)
          refine hx_pf (q := (0, 0, 0, 0, (-2147483648), 2147483647)) (s := 30) (l := 94) (v := .int z124) rfl rfl rfl (by decide) rfl rfl rfl hw54 hG0 g50 trivial (ck_top_ok (G := G) z124) (fun w126 fs127 g128 e129 o130 n131 hw132 n133 => ?_)
          have hs134 := ty_same_tr hs56 (n133 fz (hx_ok hfz (by decide)))
          have hf135 := hFF _ _ (n133 pr_ (by decide)) hf57
          refine ax_go 1 (y := (95, [some (.ref o), some (.int lv), some (.int z37), some (.int z120)], [.int lv], w126, 0, 0)) rfl trivial ?_
          refine hx_if_eq (l := 98) rfl rfl (fun h136 => ?_) (fun h136 => ?_)
          · -- 105
            refine hx_lk (l := 106) (m := 0) rfl rfl (by decide) (fun z137 h138 => ?_)
            exact ax_ret rfl rfl trivial ⟨some (.long z137), _, rfl, hw132, hf135, hs134, (ck_ltop_ok (G := G) z137), (fun o1 l1 h1 => by cases h1; exact ⟨z124, by omega, ⟨_, g128, ((o130 2 (by decide)).trans ((o52 2 (by decide)).trans iA25)), e129, ((o130 23 (by decide)).trans ((o52 23 (by decide)).trans iC27)), ((o130 25 (by decide)).trans ((o52 25 (by decide)).trans iD28)), ((n131 _ (hx_ne hG_pk hG0 (by decide))).trans ((n53 _ (hx_ne hG_pk hG0 (by decide))).trans gK29))⟩⟩)⟩
          · -- 98
            refine ax_go 1 (y := (99, [some (.ref o), some (.int lv), some (.int z37), some (.int z120)], [.ref o], w126, 0, 0)) rfl trivial ?_
            have q139 := hx_oq hw132 g128 hG0 (s := 30) rfl
            obtain ⟨x140, e141, a142, b143⟩ := hx_fi (k := 24) (lo := 0) (hi := 1) q139 rfl
            refine hx_gf (l := 102) rfl rfl rfl g128 e141 ?_
            refine hx_if_eq (l := 105) rfl rfl (fun h144 => ?_) (fun h144 => ?_)
            · -- 107
              refine ax_go 1 (y := (108, [some (.ref o), some (.int lv), some (.int z37), some (.int z120)], [.int z37], w126, 0, 0)) rfl trivial ?_
              refine hx_k (l := 110) (m := 50) rfl rfl (by decide) (fun z145 h146 => ?_)
              refine hx_ic_ne (l := 113) rfl rfl (fun h147 => ?_) (fun h147 => ?_)
              · -- 130
                refine ax_go 1 (y := (131, [some (.ref o), some (.int lv), some (.int z37), some (.int z120)], [.ref o], w126, 0, 0)) rfl trivial ?_
                refine hx_gf (l := 134) rfl rfl rfl g128 ((o130 25 (by decide)).trans ((o52 25 (by decide)).trans iD28)) ?_
                refine hx_if_eq (l := 137) rfl rfl (fun h148 => ?_) (fun h148 => ?_)
                · -- 147
                  refine ax_go 1 (y := (148, [some (.ref o), some (.int lv), some (.int z37), some (.int z120)], [.ref o], w126, 0, 0)) rfl trivial ?_
                  obtain ⟨p149, e150, hG151⟩ := hx_fr (k := 26) (s := 42) q139 rfl
                  refine hx_gf (l := 151) rfl rfl rfl g128 e150 ?_
                  refine ax_go 1 (y := (152, [some (.ref o), some (.int lv), some (.int z37), some (.int z120)], [.int z37, .ref p149], w126, 0, 0)) rfl trivial ?_
                  refine hx_k (l := 154) (m := 9) rfl rfl (by decide) (fun z152 h153 => ?_)
                  refine hx_sub (l := 155) rfl rfl (fun z154 h155 => ?_)
                  replace h155 := h155 (by omega) (by omega)
                  have hl0 := hlf.1 (by omega)
                  obtain ⟨f156, g157, r158⟩ := hx_row hw132 hG151 (s := 42) (kd := 0) (n := 8) rfl (by decide)
                  refine hx_il (l := 156) rfl rfl g157 (by omega) (by omega) (fun z159 h160 => ?_)
                  refine hx_anyl (l := 157) rfl rfl (fun z161 => ?_)
                  exact ax_ret rfl rfl trivial ⟨some (.long z161), _, rfl, hw132, hf135, hs134, (ck_ltop_ok (G := G) z161), (fun o1 l1 h1 => by cases h1; exact ⟨z124, by omega, ⟨_, g128, ((o130 2 (by decide)).trans ((o52 2 (by decide)).trans iA25)), e129, ((o130 23 (by decide)).trans ((o52 23 (by decide)).trans iC27)), ((o130 25 (by decide)).trans ((o52 25 (by decide)).trans iD28)), ((n131 _ (hx_ne hG_pk hG0 (by decide))).trans ((n53 _ (hx_ne hG_pk hG0 (by decide))).trans gK29))⟩⟩)⟩
                · -- 137
                  refine ax_go 3 (y := (140, [some (.ref o), some (.int lv), some (.int z37), some (.int z120)], [.int z120, .int z37, .ref o], w126, 0, 0)) rfl trivial ?_
                  refine hx_ci (l := 143) (as := [.ref o, .int z37, .int z120]) rfl rfl (hx_iv (j := 178) (n := 2) (o := o) (r := []) rfl rfl g128 rfl) (h_X9_orderValue (fz := ([(32, 999), (30, 2), (30, 22), (30, 23), (30, 25)] ++ fz)) hF (hx_app (by decide +kernel) (fun q hq => (by decide +kernel : ∀ q ∈ fb_hv_partOf, q ∈ fb_X9_orderValue) q (hfz q hq))) (d + 2)) hw132 hf135 ⟨(hx_tr (G := G) (s := 30) (b := 0) hG0 (by decide)), (ck_top_ok (G := G) z37), (ck_top_ok (G := G) z120), trivial⟩ (fun w162 z167 hw163 hf164 m165 a168 b169 u170 => ?_)
                  have hs166 := ty_same_tr hs134 (hx_sapp m165)
                  obtain ⟨fs171, g172, -, q173⟩ := hx_obj hw163 hG0 (s := 30) rfl (by decide)
                  refine hx_anyl (l := 144) rfl rfl (fun z174 => ?_)
                  refine ax_go 1 (y := (157, [some (.ref o), some (.int lv), some (.int z37), some (.int z120)], [.long z174], w162, 0, 0)) rfl trivial ?_
                  exact ax_ret rfl rfl trivial ⟨some (.long z174), _, rfl, hw163, hf164, hs166, (ck_ltop_ok (G := G) z174), (fun o1 l1 h1 => by cases h1; exact ⟨z124, by omega, ⟨_, g172, ((hx_kf m165 (hx_mem hG0 (by decide)) g128 g172).trans ((o130 2 (by decide)).trans ((o52 2 (by decide)).trans iA25))), ((hx_kf m165 (hx_mem hG0 (by decide)) g128 g172).trans e129), ((hx_kf m165 (hx_mem hG0 (by decide)) g128 g172).trans ((o130 23 (by decide)).trans ((o52 23 (by decide)).trans iC27))), ((hx_kf m165 (hx_mem hG0 (by decide)) g128 g172).trans ((o130 25 (by decide)).trans ((o52 25 (by decide)).trans iD28))), ((hx_kr m165 (hx_mem hG_pk (by decide))).trans ((n131 _ (hx_ne hG_pk hG0 (by decide))).trans ((n53 _ (hx_ne hG_pk hG0 (by decide))).trans gK29)))⟩⟩)⟩
              · -- 113
                refine ax_go 1 (y := (114, [some (.ref o), some (.int lv), some (.int z37), some (.int z120)], [.ref o], w126, 0, 0)) rfl trivial ?_
                refine hx_gf (l := 117) rfl rfl rfl g128 ((o130 2 (by decide)).trans ((o52 2 (by decide)).trans iA25)) ?_
                refine hx_k (l := 120) (m := 2921) rfl rfl (by decide) (fun z175 h176 => ?_)
                refine ax_go 1 (y := (121, [some (.ref o), some (.int lv), some (.int z37), some (.int z120)], [.ref o, .int z175, .ref pk], w126, 0, 0)) rfl trivial ?_
                refine hx_gf (l := 124) rfl rfl rfl g128 e129 ?_
                refine hx_add (l := 125) rfl rfl (fun z177 h178 => ?_)
                replace h178 := h178 (by omega) (by omega)
                refine hx_k (l := 126) (m := 1) rfl rfl (by decide) (fun z179 h180 => ?_)
                refine hx_sub (l := 127) rfl rfl (fun z181 h182 => ?_)
                replace h182 := h182 (by omega) (by omega)
                refine hx_il (l := 128) rfl rfl ((n131 _ (hx_ne hG_pk hG0 (by decide))).trans ((n53 _ (hx_ne hG_pk hG0 (by decide))).trans gK29)) (by omega) (by omega) (fun z183 h184 => ?_)
                refine hx_anyl (l := 129) rfl rfl (fun z185 => ?_)
                exact ax_ret rfl rfl trivial ⟨some (.long z185), _, rfl, hw132, hf135, hs134, (ck_ltop_ok (G := G) z185), (fun o1 l1 h1 => by cases h1; exact ⟨z124, by omega, ⟨_, g128, ((o130 2 (by decide)).trans ((o52 2 (by decide)).trans iA25)), e129, ((o130 23 (by decide)).trans ((o52 23 (by decide)).trans iC27)), ((o130 25 (by decide)).trans ((o52 25 (by decide)).trans iD28)), ((n131 _ (hx_ne hG_pk hG0 (by decide))).trans ((n53 _ (hx_ne hG_pk hG0 (by decide))).trans gK29))⟩⟩)⟩
            · -- 105
              refine hx_lk (l := 106) (m := 0) rfl rfl (by decide) (fun z186 h187 => ?_)
              exact ax_ret rfl rfl trivial ⟨some (.long z186), _, rfl, hw132, hf135, hs134, (ck_ltop_ok (G := G) z186), (fun o1 l1 h1 => by cases h1; exact ⟨z124, by omega, ⟨_, g128, ((o130 2 (by decide)).trans ((o52 2 (by decide)).trans iA25)), e129, ((o130 23 (by decide)).trans ((o52 23 (by decide)).trans iC27)), ((o130 25 (by decide)).trans ((o52 25 (by decide)).trans iD28)), ((n131 _ (hx_ne hG_pk hG0 (by decide))).trans ((n53 _ (hx_ne hG_pk hG0 (by decide))).trans gK29))⟩⟩)⟩
        · -- 64
          refine ax_go 1 (y := (65, [some (.ref o), some (.int lv), some (.int z37), some (.int z42)], [.int z37], w48, 0, 0)) rfl trivial ?_
          refine hx_k (l := 67) (m := 15) rfl rfl (by decide) (fun z188 h189 => ?_)
          refine hx_ic_ne (l := 70) rfl rfl (fun h190 => ?_) (fun h190 => ?_)
          · -- 94
            refine ax_go 1 (y := (95, [some (.ref o), some (.int lv), some (.int z37), some (.int z42)], [.int lv], w48, 0, 0)) rfl trivial ?_
            refine hx_if_eq (l := 98) rfl rfl (fun h191 => ?_) (fun h191 => ?_)
            · -- 105
              refine hx_lk (l := 106) (m := 0) rfl rfl (by decide) (fun z192 h193 => ?_)
              exact ax_ret rfl rfl trivial ⟨some (.long z192), _, rfl, hw54, hf57, hs56, (ck_ltop_ok (G := G) z192), (fun o1 l1 h1 => by cases h1; exact ⟨z46, by omega, ⟨_, g50, ((o52 2 (by decide)).trans iA25), e51, ((o52 23 (by decide)).trans iC27), ((o52 25 (by decide)).trans iD28), ((n53 _ (hx_ne hG_pk hG0 (by decide))).trans gK29)⟩⟩)⟩
            · -- 98
              refine ax_go 1 (y := (99, [some (.ref o), some (.int lv), some (.int z37), some (.int z42)], [.ref o], w48, 0, 0)) rfl trivial ?_
              have q194 := hx_oq hw54 g50 hG0 (s := 30) rfl
              obtain ⟨x195, e196, a197, b198⟩ := hx_fi (k := 24) (lo := 0) (hi := 1) q194 rfl
              refine hx_gf (l := 102) rfl rfl rfl g50 e196 ?_
              refine hx_if_eq (l := 105) rfl rfl (fun h199 => ?_) (fun h199 => ?_)
              · -- 107
                refine ax_go 1 (y := (108, [some (.ref o), some (.int lv), some (.int z37), some (.int z42)], [.int z37], w48, 0, 0)) rfl trivial ?_
                refine hx_k (l := 110) (m := 50) rfl rfl (by decide) (fun z200 h201 => ?_)
                refine hx_ic_ne (l := 113) rfl rfl (fun h202 => ?_) (fun h202 => ?_)
                · -- 130
                  refine ax_go 1 (y := (131, [some (.ref o), some (.int lv), some (.int z37), some (.int z42)], [.ref o], w48, 0, 0)) rfl trivial ?_
                  refine hx_gf (l := 134) rfl rfl rfl g50 ((o52 25 (by decide)).trans iD28) ?_
                  refine hx_if_eq (l := 137) rfl rfl (fun h203 => ?_) (fun h203 => ?_)
                  · -- 147
                    refine ax_go 1 (y := (148, [some (.ref o), some (.int lv), some (.int z37), some (.int z42)], [.ref o], w48, 0, 0)) rfl trivial ?_
                    obtain ⟨p204, e205, hG206⟩ := hx_fr (k := 26) (s := 42) q194 rfl
                    refine hx_gf (l := 151) rfl rfl rfl g50 e205 ?_
                    refine ax_go 1 (y := (152, [some (.ref o), some (.int lv), some (.int z37), some (.int z42)], [.int z37, .ref p204], w48, 0, 0)) rfl trivial ?_
                    refine hx_k (l := 154) (m := 9) rfl rfl (by decide) (fun z207 h208 => ?_)
                    refine hx_sub (l := 155) rfl rfl (fun z209 h210 => ?_)
                    replace h210 := h210 (by omega) (by omega)
                    have hl0 := hlf.1 (by omega)
                    obtain ⟨f211, g212, r213⟩ := hx_row hw54 hG206 (s := 42) (kd := 0) (n := 8) rfl (by decide)
                    refine hx_il (l := 156) rfl rfl g212 (by omega) (by omega) (fun z214 h215 => ?_)
                    refine hx_anyl (l := 157) rfl rfl (fun z216 => ?_)
                    exact ax_ret rfl rfl trivial ⟨some (.long z216), _, rfl, hw54, hf57, hs56, (ck_ltop_ok (G := G) z216), (fun o1 l1 h1 => by cases h1; exact ⟨z46, by omega, ⟨_, g50, ((o52 2 (by decide)).trans iA25), e51, ((o52 23 (by decide)).trans iC27), ((o52 25 (by decide)).trans iD28), ((n53 _ (hx_ne hG_pk hG0 (by decide))).trans gK29)⟩⟩)⟩
                  · -- 137
                    refine ax_go 3 (y := (140, [some (.ref o), some (.int lv), some (.int z37), some (.int z42)], [.int z42, .int z37, .ref o], w48, 0, 0)) rfl trivial ?_
                    refine hx_ci (l := 143) (as := [.ref o, .int z37, .int z42]) rfl rfl (hx_iv (j := 178) (n := 2) (o := o) (r := []) rfl rfl g50 rfl) (h_X9_orderValue (fz := ([(32, 999), (30, 2), (30, 22), (30, 23), (30, 25)] ++ fz)) hF (hx_app (by decide +kernel) (fun q hq => (by decide +kernel : ∀ q ∈ fb_hv_partOf, q ∈ fb_X9_orderValue) q (hfz q hq))) (d + 2)) hw54 hf57 ⟨(hx_tr (G := G) (s := 30) (b := 0) hG0 (by decide)), (ck_top_ok (G := G) z37), (ck_top_ok (G := G) z42), trivial⟩ (fun w217 z222 hw218 hf219 m220 a223 b224 u225 => ?_)
                    have hs221 := ty_same_tr hs56 (hx_sapp m220)
                    obtain ⟨fs226, g227, -, q228⟩ := hx_obj hw218 hG0 (s := 30) rfl (by decide)
                    refine hx_anyl (l := 144) rfl rfl (fun z229 => ?_)
                    refine ax_go 1 (y := (157, [some (.ref o), some (.int lv), some (.int z37), some (.int z42)], [.long z229], w217, 0, 0)) rfl trivial ?_
                    exact ax_ret rfl rfl trivial ⟨some (.long z229), _, rfl, hw218, hf219, hs221, (ck_ltop_ok (G := G) z229), (fun o1 l1 h1 => by cases h1; exact ⟨z46, by omega, ⟨_, g227, ((hx_kf m220 (hx_mem hG0 (by decide)) g50 g227).trans ((o52 2 (by decide)).trans iA25)), ((hx_kf m220 (hx_mem hG0 (by decide)) g50 g227).trans e51), ((hx_kf m220 (hx_mem hG0 (by decide)) g50 g227).trans ((o52 23 (by decide)).trans iC27)), ((hx_kf m220 (hx_mem hG0 (by decide)) g50 g227).trans ((o52 25 (by decide)).trans iD28)), ((hx_kr m220 (hx_mem hG_pk (by decide))).trans ((n53 _ (hx_ne hG_pk hG0 (by decide))).trans gK29))⟩⟩)⟩
                · -- 113
                  refine ax_go 1 (y := (114, [some (.ref o), some (.int lv), some (.int z37), some (.int z42)], [.ref o], w48, 0, 0)) rfl trivial ?_
                  refine hx_gf (l := 117) rfl rfl rfl g50 ((o52 2 (by decide)).trans iA25) ?_
                  refine hx_k (l := 120) (m := 2921) rfl rfl (by decide) (fun z230 h231 => ?_)
                  refine ax_go 1 (y := (121, [some (.ref o), some (.int lv), some (.int z37), some (.int z42)], [.ref o, .int z230, .ref pk], w48, 0, 0)) rfl trivial ?_
                  refine hx_gf (l := 124) rfl rfl rfl g50 e51 ?_
                  refine hx_add (l := 125) rfl rfl (fun z232 h233 => ?_)
                  replace h233 := h233 (by omega) (by omega)
                  refine hx_k (l := 126) (m := 1) rfl rfl (by decide) (fun z234 h235 => ?_)
                  refine hx_sub (l := 127) rfl rfl (fun z236 h237 => ?_)
                  replace h237 := h237 (by omega) (by omega)
                  have r238 := hx_rq hw54 ((n53 _ (hx_ne hG_pk hG0 (by decide))).trans gK29) hG_pk (s := 32) rfl
                  refine hx_il (l := 128) rfl rfl ((n53 _ (hx_ne hG_pk hG0 (by decide))).trans gK29) (by omega) (by omega) (fun z239 h240 => ?_)
                  refine hx_anyl (l := 129) rfl rfl (fun z241 => ?_)
                  exact ax_ret rfl rfl trivial ⟨some (.long z241), _, rfl, hw54, hf57, hs56, (ck_ltop_ok (G := G) z241), (fun o1 l1 h1 => by cases h1; exact ⟨z46, by omega, ⟨_, g50, ((o52 2 (by decide)).trans iA25), e51, ((o52 23 (by decide)).trans iC27), ((o52 25 (by decide)).trans iD28), ((n53 _ (hx_ne hG_pk hG0 (by decide))).trans gK29)⟩⟩)⟩
              · -- 105
                refine hx_lk (l := 106) (m := 0) rfl rfl (by decide) (fun z242 h243 => ?_)
                exact ax_ret rfl rfl trivial ⟨some (.long z242), _, rfl, hw54, hf57, hs56, (ck_ltop_ok (G := G) z242), (fun o1 l1 h1 => by cases h1; exact ⟨z46, by omega, ⟨_, g50, ((o52 2 (by decide)).trans iA25), e51, ((o52 23 (by decide)).trans iC27), ((o52 25 (by decide)).trans iD28), ((n53 _ (hx_ne hG_pk hG0 (by decide))).trans gK29)⟩⟩)⟩
          · -- 70
            have hc2 := hcase.resolve_right (fun zz => zz.1 ⟨by omega, by omega⟩)
            have lt2 := gc_lt (c := cf f) (e := e.toInt.toNat) (p := g.toInt.toNat + 1) (by omega)
            refine ax_go 1 (y := (71, [some (.ref o), some (.int lv), some (.int z37), some (.int z42)], [.ref o], w48, 0, 0)) rfl trivial ?_
            refine hx_gf (l := 74) rfl rfl rfl g50 ((o52 2 (by decide)).trans iA25) ?_
            refine hx_k (l := 77) (m := 2921) rfl rfl (by decide) (fun z244 h245 => ?_)
            refine ax_go 1 (y := (78, [some (.ref o), some (.int lv), some (.int z37), some (.int z42)], [.ref o, .int z244, .ref pk], w48, 0, 0)) rfl trivial ?_
            refine hx_gf (l := 81) rfl rfl rfl g50 e51 ?_
            refine hx_add (l := 82) rfl rfl (fun z246 h247 => ?_)
            replace h247 := h247 (by omega) (by omega)
            have r248 := hx_rq hw54 ((n53 _ (hx_ne hG_pk hG0 (by decide))).trans gK29) hG_pk (s := 32) rfl
            refine hx_il (l := 83) rfl rfl ((n53 _ (hx_ne hG_pk hG0 (by decide))).trans gK29) (by omega) (by omega) (fun z249 h250 => ?_)
            refine ax_go 3 (y := (86, [some (.ref o), some (.int lv), some (.int z37), some (.int z249)], [.ref o, .ref o], w48, 0, 0)) rfl trivial ?_
            refine hx_gf (l := 89) rfl rfl rfl g50 e51 ?_
            refine hx_k (l := 90) (m := 1) rfl rfl (by decide) (fun z251 h252 => ?_)
            refine hx_add (l := 91) rfl rfl (fun z253 h254 => ?_)
            replace h254 := h254 (by omega) (by omega)
            refine hx_pf (q := (0, 0, 0, 0, (-2147483648), 2147483647)) (s := 30) (l := 94) (v := .int z253) rfl rfl rfl (by decide) rfl rfl rfl hw54 hG0 g50 trivial (ck_top_ok (G := G) z253) (fun w255 fs256 g257 e258 o259 n260 hw261 n262 => ?_)
            have hs263 := ty_same_tr hs56 (n262 fz (hx_ok hfz (by decide)))
            have hf264 := hFF _ _ (n262 pr_ (by decide)) hf57
            refine ax_go 1 (y := (95, [some (.ref o), some (.int lv), some (.int z37), some (.int z249)], [.int lv], w255, 0, 0)) rfl trivial ?_
            refine hx_if_eq (l := 98) rfl rfl (fun h265 => ?_) (fun h265 => ?_)
            · -- 105
              refine hx_lk (l := 106) (m := 0) rfl rfl (by decide) (fun z266 h267 => ?_)
              exact ax_ret rfl rfl trivial ⟨some (.long z266), _, rfl, hw261, hf264, hs263, (ck_ltop_ok (G := G) z266), (fun o1 l1 h1 => by cases h1; exact ⟨z253, by omega, ⟨_, g257, ((o259 2 (by decide)).trans ((o52 2 (by decide)).trans iA25)), e258, ((o259 23 (by decide)).trans ((o52 23 (by decide)).trans iC27)), ((o259 25 (by decide)).trans ((o52 25 (by decide)).trans iD28)), ((n260 _ (hx_ne hG_pk hG0 (by decide))).trans ((n53 _ (hx_ne hG_pk hG0 (by decide))).trans gK29))⟩⟩)⟩
            · -- 98
              refine ax_go 1 (y := (99, [some (.ref o), some (.int lv), some (.int z37), some (.int z249)], [.ref o], w255, 0, 0)) rfl trivial ?_
              have q268 := hx_oq hw261 g257 hG0 (s := 30) rfl
              obtain ⟨x269, e270, a271, b272⟩ := hx_fi (k := 24) (lo := 0) (hi := 1) q268 rfl
              refine hx_gf (l := 102) rfl rfl rfl g257 e270 ?_
              refine hx_if_eq (l := 105) rfl rfl (fun h273 => ?_) (fun h273 => ?_)
              · -- 107
                refine ax_go 1 (y := (108, [some (.ref o), some (.int lv), some (.int z37), some (.int z249)], [.int z37], w255, 0, 0)) rfl trivial ?_
                refine hx_k (l := 110) (m := 50) rfl rfl (by decide) (fun z274 h275 => ?_)
                refine hx_ic_ne (l := 113) rfl rfl (fun h276 => ?_) (fun h276 => ?_)
                · -- 130
                  refine ax_go 1 (y := (131, [some (.ref o), some (.int lv), some (.int z37), some (.int z249)], [.ref o], w255, 0, 0)) rfl trivial ?_
                  refine hx_gf (l := 134) rfl rfl rfl g257 ((o259 25 (by decide)).trans ((o52 25 (by decide)).trans iD28)) ?_
                  refine hx_if_eq (l := 137) rfl rfl (fun h277 => ?_) (fun h277 => ?_)
                  · -- 147
                    refine ax_go 1 (y := (148, [some (.ref o), some (.int lv), some (.int z37), some (.int z249)], [.ref o], w255, 0, 0)) rfl trivial ?_
                    obtain ⟨p278, e279, hG280⟩ := hx_fr (k := 26) (s := 42) q268 rfl
                    refine hx_gf (l := 151) rfl rfl rfl g257 e279 ?_
                    refine ax_go 1 (y := (152, [some (.ref o), some (.int lv), some (.int z37), some (.int z249)], [.int z37, .ref p278], w255, 0, 0)) rfl trivial ?_
                    refine hx_k (l := 154) (m := 9) rfl rfl (by decide) (fun z281 h282 => ?_)
                    refine hx_sub (l := 155) rfl rfl (fun z283 h284 => ?_)
                    replace h284 := h284 (by omega) (by omega)
                    have hl0 := hlf.1 (by omega)
                    obtain ⟨f285, g286, r287⟩ := hx_row hw261 hG280 (s := 42) (kd := 0) (n := 8) rfl (by decide)
                    refine hx_il (l := 156) rfl rfl g286 (by omega) (by omega) (fun z288 h289 => ?_)
                    refine hx_anyl (l := 157) rfl rfl (fun z290 => ?_)
                    exact ax_ret rfl rfl trivial ⟨some (.long z290), _, rfl, hw261, hf264, hs263, (ck_ltop_ok (G := G) z290), (fun o1 l1 h1 => by cases h1; exact ⟨z253, by omega, ⟨_, g257, ((o259 2 (by decide)).trans ((o52 2 (by decide)).trans iA25)), e258, ((o259 23 (by decide)).trans ((o52 23 (by decide)).trans iC27)), ((o259 25 (by decide)).trans ((o52 25 (by decide)).trans iD28)), ((n260 _ (hx_ne hG_pk hG0 (by decide))).trans ((n53 _ (hx_ne hG_pk hG0 (by decide))).trans gK29))⟩⟩)⟩
                  · -- 137
                    refine ax_go 3 (y := (140, [some (.ref o), some (.int lv), some (.int z37), some (.int z249)], [.int z249, .int z37, .ref o], w255, 0, 0)) rfl trivial ?_
                    refine hx_ci (l := 143) (as := [.ref o, .int z37, .int z249]) rfl rfl (hx_iv (j := 178) (n := 2) (o := o) (r := []) rfl rfl g257 rfl) (h_X9_orderValue (fz := ([(32, 999), (30, 2), (30, 22), (30, 23), (30, 25)] ++ fz)) hF (hx_app (by decide +kernel) (fun q hq => (by decide +kernel : ∀ q ∈ fb_hv_partOf, q ∈ fb_X9_orderValue) q (hfz q hq))) (d + 2)) hw261 hf264 ⟨(hx_tr (G := G) (s := 30) (b := 0) hG0 (by decide)), (ck_top_ok (G := G) z37), (ck_top_ok (G := G) z249), trivial⟩ (fun w291 z296 hw292 hf293 m294 a297 b298 u299 => ?_)
                    have hs295 := ty_same_tr hs263 (hx_sapp m294)
                    obtain ⟨fs300, g301, -, q302⟩ := hx_obj hw292 hG0 (s := 30) rfl (by decide)
                    refine hx_anyl (l := 144) rfl rfl (fun z303 => ?_)
                    refine ax_go 1 (y := (157, [some (.ref o), some (.int lv), some (.int z37), some (.int z249)], [.long z303], w291, 0, 0)) rfl trivial ?_
                    exact ax_ret rfl rfl trivial ⟨some (.long z303), _, rfl, hw292, hf293, hs295, (ck_ltop_ok (G := G) z303), (fun o1 l1 h1 => by cases h1; exact ⟨z253, by omega, ⟨_, g301, ((hx_kf m294 (hx_mem hG0 (by decide)) g257 g301).trans ((o259 2 (by decide)).trans ((o52 2 (by decide)).trans iA25))), ((hx_kf m294 (hx_mem hG0 (by decide)) g257 g301).trans e258), ((hx_kf m294 (hx_mem hG0 (by decide)) g257 g301).trans ((o259 23 (by decide)).trans ((o52 23 (by decide)).trans iC27))), ((hx_kf m294 (hx_mem hG0 (by decide)) g257 g301).trans ((o259 25 (by decide)).trans ((o52 25 (by decide)).trans iD28))), ((hx_kr m294 (hx_mem hG_pk (by decide))).trans ((n260 _ (hx_ne hG_pk hG0 (by decide))).trans ((n53 _ (hx_ne hG_pk hG0 (by decide))).trans gK29)))⟩⟩)⟩
                · -- 113
                  refine ax_go 1 (y := (114, [some (.ref o), some (.int lv), some (.int z37), some (.int z249)], [.ref o], w255, 0, 0)) rfl trivial ?_
                  refine hx_gf (l := 117) rfl rfl rfl g257 ((o259 2 (by decide)).trans ((o52 2 (by decide)).trans iA25)) ?_
                  refine hx_k (l := 120) (m := 2921) rfl rfl (by decide) (fun z304 h305 => ?_)
                  refine ax_go 1 (y := (121, [some (.ref o), some (.int lv), some (.int z37), some (.int z249)], [.ref o, .int z304, .ref pk], w255, 0, 0)) rfl trivial ?_
                  refine hx_gf (l := 124) rfl rfl rfl g257 e258 ?_
                  refine hx_add (l := 125) rfl rfl (fun z306 h307 => ?_)
                  replace h307 := h307 (by omega) (by omega)
                  refine hx_k (l := 126) (m := 1) rfl rfl (by decide) (fun z308 h309 => ?_)
                  refine hx_sub (l := 127) rfl rfl (fun z310 h311 => ?_)
                  replace h311 := h311 (by omega) (by omega)
                  refine hx_il (l := 128) rfl rfl ((n260 _ (hx_ne hG_pk hG0 (by decide))).trans ((n53 _ (hx_ne hG_pk hG0 (by decide))).trans gK29)) (by omega) (by omega) (fun z312 h313 => ?_)
                  refine hx_anyl (l := 129) rfl rfl (fun z314 => ?_)
                  exact ax_ret rfl rfl trivial ⟨some (.long z314), _, rfl, hw261, hf264, hs263, (ck_ltop_ok (G := G) z314), (fun o1 l1 h1 => by cases h1; exact ⟨z253, by omega, ⟨_, g257, ((o259 2 (by decide)).trans ((o52 2 (by decide)).trans iA25)), e258, ((o259 23 (by decide)).trans ((o52 23 (by decide)).trans iC27)), ((o259 25 (by decide)).trans ((o52 25 (by decide)).trans iD28)), ((n260 _ (hx_ne hG_pk hG0 (by decide))).trans ((n53 _ (hx_ne hG_pk hG0 (by decide))).trans gK29))⟩⟩)⟩
              · -- 105
                refine hx_lk (l := 106) (m := 0) rfl rfl (by decide) (fun z315 h316 => ?_)
                exact ax_ret rfl rfl trivial ⟨some (.long z315), _, rfl, hw261, hf264, hs263, (ck_ltop_ok (G := G) z315), (fun o1 l1 h1 => by cases h1; exact ⟨z253, by omega, ⟨_, g257, ((o259 2 (by decide)).trans ((o52 2 (by decide)).trans iA25)), e258, ((o259 23 (by decide)).trans ((o52 23 (by decide)).trans iC27)), ((o259 25 (by decide)).trans ((o52 25 (by decide)).trans iD28)), ((n260 _ (hx_ne hG_pk hG0 (by decide))).trans ((n53 _ (hx_ne hG_pk hG0 (by decide))).trans gK29))⟩⟩)⟩
    · -- 12
      obtain ⟨zz, b1, y0, hb1, hy1, hy2, hq⟩ := hpt.resolve_right (fun zz => zz.1 (by omega))
      have lt0 := gc_lt (c := cf f) (e := e.toInt.toNat) (p := g.toInt.toNat) (by omega)
      refine ax_go 2 (y := (14, [some (.ref o), some (.int lv), none, none], [.int lv, .ref o], w13, 0, 0)) rfl trivial ?_
      refine hx_pj (l := 17) (as := [.ref o, .int lv]) rfl rfl (hx_iv (j := 175) (n := 1) (o := o) (r := []) rfl rfl gA24 rfl) (ihsumOf m0 (by omega) b1 pk f e io gN22 y0 (d + 5) he ⟨by omega, by omega⟩ (by rw [show gN22.toInt.toNat = g.toInt.toNat + 1 by omega]; exact hy1) (by omega)) hw14 hf15 ⟨(hx_tr (G := G) (s := 30) (b := 0) hG0 (by decide)), (hx_ti (G := G) (lo := 0) (hi := 1) (by omega) (by omega)), trivial⟩ (fun o1 l1 h1 => by cases h1; exact ⟨_, gA24, iA25, iB26, iC27, iD28, gK29⟩) (fun w317 z322 hw318 hf319 m320 a323 b324 u325 => ?_)
      have hs321 := ty_same_tr hs17 m320
      obtain ⟨gN326, hN327, fsN328, gA329, iA330, iB331, iC332, iD333, gK334⟩ := u325 _ _ rfl
      have le335 := gr_le hy1 (by omega)
      refine ax_go 3 (y := (20, [some (.ref o), some (.int lv), some (.long z322), none], [.ref o, .ref o], w317, 0, 0)) rfl trivial ?_
      refine hx_gf (l := 23) rfl rfl rfl gA329 iB331 ?_
      refine hx_k (l := 24) (m := 1) rfl rfl (by decide) (fun z336 h337 => ?_)
      refine hx_add (l := 25) rfl rfl (fun z338 h339 => ?_)
      replace h339 := h339 (by omega) (by omega)
      refine hx_pf (q := (0, 0, 0, 0, (-2147483648), 2147483647)) (s := 30) (l := 28) (v := .int z338) rfl rfl rfl (by decide) rfl rfl rfl hw318 hG0 gA329 trivial (ck_top_ok (G := G) z338) (fun w340 fs341 g342 e343 o344 n345 hw346 n347 => ?_)
      have hs348 := ty_same_tr hs321 (n347 fz (hx_ok hfz (by decide)))
      have hf349 := hFF _ _ (n347 pr_ (by decide)) hf319
      refine ax_go 1 (y := (29, [some (.ref o), some (.int lv), some (.long z322), none], [.long z322], w340, 0, 0)) rfl trivial ?_
      exact ax_ret rfl rfl trivial ⟨some (.long z322), _, rfl, hw346, hf349, hs348, (ck_ltop_ok (G := G) z322), (fun o1 l1 h1 => by cases h1; exact ⟨z338, by omega, ⟨_, g342, ((o344 2 (by decide)).trans iA330), e343, ((o344 23 (by decide)).trans iC332), ((o344 25 (by decide)).trans iD333), ((n345 _ (hx_ne hG_pk hG0 (by decide))).trans gK334)⟩⟩)⟩
