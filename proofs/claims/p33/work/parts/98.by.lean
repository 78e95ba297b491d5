/-! walks by program: the class's bytes -/
def fb_ht_X8_putFour : List (Nat × Nat) := [(8, 3), (8, 5), (19, 999), (32, 999), (33, 999), (34, 999), (35, 999), (44, 999), (45, 999), (18, 999), (2, 11), (2, 14), (1, 15), (54, 11), (4, 2), (7, 9), (30, 13), (30, 34), (30, 2), (30, 22), (30, 23), (30, 24), (30, 25), (46, 999), (47, 999), (30, 35), (30, 36), (7, 0), (37, 999), (30, 4), (30, 5), (30, 6), (30, 8), (30, 9), (30, 10), (30, 11), (30, 14), (30, 15), (30, 16), (30, 17), (30, 18), (30, 19), (30, 20), (30, 21), (39, 999), (40, 999), (41, 999), (30, 30), (30, 42), (30, 43), (30, 44), (1, 1), (1, 3), (1, 10), (1, 13), (8, 0), (30, 49), (2, 15), (8, 1)]
set_option maxHeartbeats 8000000 in
theorem ht_X8_putFour {ro : ab_R} {G : Nat → Nat} {fz : List (Nat × Nat)} {F : ab_W → Prop} (hF : ∀ w w', ty_same G pr_ w w' → F w → F w') (hfz : ∀ q ∈ fz, q ∈ fb_ht_X8_putFour) (d : Nat) : hx_ct ro sp_ G F fz (ab_Ev ro ab_codes (d + 1)) 117 [(2, 1, 0), (0, (-2147483648), 2147483647)] none (fun _ _ => True) (fun as w _ w1 => ∀ (o : Nat) (n b : Int32), as = [.ref o, .int n] → hx_has w o 8 0 (.int b) → b.toInt ≤ 396 → ∃ b2 : Int32, hx_has w1 o 8 0 (.int b2) ∧ b2.toInt = b.toInt + 4) := by
  refine hx_hand (d := d + 0) (by decide) (fun as w hw hf has hP => ?_)
  match as, has with
  | [v0, v1], ⟨h0, h1, _⟩ =>
    obtain ⟨o, rfl, _, hG0⟩ := ty_refn h0 rfl rfl
    replace hG0 : G o = 1 := hG0
    obtain ⟨nn, rfl, hl1, hh1⟩ := ty_int h1 rfl
    replace hl1 : ((-2147483648) : Int) ≤ nn.toInt := hl1
    replace hh1 : nn.toInt ≤ 2147483647 := hh1
    refine ⟨rfl, ?_⟩
    obtain ⟨fs1, g2, -, q3⟩ := hx_obj hw hG0 (s := 1) rfl (by decide)
    obtain ⟨x4, e5, a6, b7⟩ := hx_fi (k := 0) (lo := 0) (hi := 400) q3 rfl
    have ct3 : ∀ (nq : Nat) (w8 : ab_W) (sh : Int32) (bq : Int32), ty_w sp_ G w8 → F w8 → ty_same G fz w w8 → (hx_has w8 o 8 0 (.int bq)) → (-8 ≤ sh.toInt) → (sh.toInt ≤ 24) → (sh.toInt % 8 = 0) → (bq.toInt ≤ x4.toInt + (24 - sh.toInt) / 8) → (x4.toInt ≤ 396 → bq.toInt = x4.toInt + (24 - sh.toInt) / 8) → (sh.toInt + 8).toNat < nq → ab_wp ro (ab_Ev ro ab_codes d) 8 false none ab_k_X8_putFour (fun o_1 => ∃ v w1, o_1 = (v, w1, 0, 0) ∧ ty_w sp_ G w1 ∧ F w1 ∧ ty_same G fz w w1 ∧ ck_res G none v ∧ (fun as w _ w1 => ∀ (o : Nat) (n b : Int32), as = [.ref o, .int n] → hx_has w o 8 0 (.int b) → b.toInt ≤ 396 → ∃ b2 : Int32, hx_has w1 o 8 0 (.int b2) ∧ b2.toInt = b.toInt + 4) ([.ref o, .int nn] : List Value) w v w1) (3, [some (.ref o), some (.int nn), some (.int sh)], [], w8, 0, 0) := by
      intro nq
      induction nq with
      | zero => intro w8 sh bq hw15 hf16 hs17 hh9 i10 i11 i12 i13 i14 hm; exact absurd hm (Nat.not_lt_zero _)
      | succ nq ih3 =>
        intro w8 sh bq hw15 hf16 hs17 hh9 i10 i11 i12 i13 i14 hm3
        obtain ⟨fs18, g19, e20⟩ := hh9
        have q21 := hx_oq hw15 g19 hG0 (s := 1) rfl
        obtain ⟨x22, e23, a24, b25⟩ := hx_fi (k := 0) (lo := 0) (hi := 400) q21 rfl
        obtain rfl : bq = x22 := hx_inji e20 e23
        refine ax_go 1 (y := (4, [some (.ref o), some (.int nn), some (.int sh)], [.int sh], w8, 0, 0)) rfl trivial ?_
        refine hx_if_lt (l := 7) rfl rfl (fun h26 => ?_) (fun h26 => ?_)
        · -- 52
          exact ax_ret rfl rfl trivial ⟨none, _, rfl, hw15, hf16, hs17, trivial, (fun o1 n1 b1 h1 h3 h4 => by cases h1; obtain ⟨fsA, gA, iA⟩ := h3; obtain rfl := hx_inj g2 gA; obtain rfl := hx_inji e5 iA; exact ⟨bq, ⟨_, g19, e20⟩, by omega⟩)⟩
        · -- 7
          refine ax_go 1 (y := (8, [some (.ref o), some (.int nn), some (.int sh)], [.ref o], w8, 0, 0)) rfl trivial ?_
          refine hx_gf (l := 11) rfl rfl rfl g19 e20 ?_
          refine hx_k (l := 14) (m := 400) rfl rfl (by decide) (fun z27 h28 => ?_)
          refine hx_ic_ge (l := 17) rfl rfl (fun h29 => ?_) (fun h29 => ?_)
          · -- 52
            exact ax_ret rfl rfl trivial ⟨none, _, rfl, hw15, hf16, hs17, trivial, (fun o1 n1 b1 h1 h3 h4 => by cases h1; obtain ⟨fsA, gA, iA⟩ := h3; obtain rfl := hx_inj g2 gA; obtain rfl := hx_inji e5 iA; exact ⟨bq, ⟨_, g19, e20⟩, by omega⟩)⟩
          · -- 17
            refine ax_go 1 (y := (18, [some (.ref o), some (.int nn), some (.int sh)], [.ref o], w8, 0, 0)) rfl trivial ?_
            obtain ⟨p30, e31, hG32⟩ := hx_fr (k := 10) (s := 8) q21 rfl
            refine hx_gf (l := 21) rfl rfl rfl g19 e31 ?_
            obtain ⟨fs33, g34, -, q35⟩ := hx_obj hw15 hG32 (s := 8) rfl (by decide)
            obtain ⟨p36, e37, hG38⟩ := hx_fr (k := 0) (s := 24) q35 rfl
            refine hx_gf (l := 24) rfl rfl rfl g34 e37 ?_
            refine ax_go 1 (y := (25, [some (.ref o), some (.int nn), some (.int sh)], [.ref o, .ref p36], w8, 0, 0)) rfl trivial ?_
            refine hx_gf (l := 28) rfl rfl rfl g19 e20 ?_
            refine ax_go 2 (y := (30, [some (.ref o), some (.int nn), some (.int sh)], [.int sh, .int nn, .int bq, .ref p36], w8, 0, 0)) rfl trivial ?_
            refine hx_any (l := 31) rfl rfl (fun z39 => ?_)
            refine hx_k (l := 34) (m := 255) rfl rfl (by decide) (fun z40 h41 => ?_)
            refine hx_any (l := 35) rfl rfl (fun z42 => ?_)
            obtain ⟨f43, g44, r45⟩ := hx_row hw15 hG38 (s := 24) (kd := 0) (n := 400) rfl (by decide)
            refine hx_is (s := 24) (l := 36) rfl rfl rfl hw15 hG38 g44 (by omega) (by omega) hx_sg0 (fun w46 f47 g48 e49 o50 n51 hw52 n53 => ?_)
            have hs54 := ty_same_tr hs17 (n53 fz (hx_ok hfz (by decide)))
            have hf55 := hF _ _ (n53 pr_ (by decide)) hf16
            refine ax_go 2 (y := (38, [some (.ref o), some (.int nn), some (.int sh)], [.ref o, .ref o], w46, 0, 0)) rfl trivial ?_
            refine hx_gf (l := 41) rfl rfl rfl ((n51 _ (hx_ne hG0 hG38 (by decide))).trans g19) e20 ?_
            refine hx_k (l := 42) (m := 1) rfl rfl (by decide) (fun z56 h57 => ?_)
            refine hx_add (l := 43) rfl rfl (fun z58 h59 => ?_)
            replace h59 := h59 (by omega) (by omega)
            refine hx_pf (q := (0, 0, 0, 0, 0, 400)) (s := 1) (l := 46) (v := .int z58) rfl rfl rfl (by decide) rfl rfl rfl hw52 hG0 ((n51 _ (hx_ne hG0 hG38 (by decide))).trans g19) trivial (hx_ti (G := G) (lo := 0) (hi := 400) (by omega) (by omega)) (fun w60 fs61 g62 e63 o64 n65 hw66 n67 => ?_)
            have hs68 := ty_same_tr hs54 (n67 fz (hx_ok hfz (by decide)))
            have hf69 := hF _ _ (n67 pr_ (by decide)) hf55
            refine hx_iinc (x := sh) (n := (-8)) (l := 49) rfl rfl rfl (Nat.le_of_ble_eq_true rfl) (by omega) (by omega) (by decide) (fun z70 h71 => ?_)
            change ab_wp ro (ab_Ev ro ab_codes d) 8 false none ab_k_X8_putFour (fun o_1 => ∃ v w1, o_1 = (v, w1, 0, 0) ∧ ty_w sp_ G w1 ∧ F w1 ∧ ty_same G fz w w1 ∧ ck_res G none v ∧ (fun as w _ w1 => ∀ (o : Nat) (n b : Int32), as = [.ref o, .int n] → hx_has w o 8 0 (.int b) → b.toInt ≤ 396 → ∃ b2 : Int32, hx_has w1 o 8 0 (.int b2) ∧ b2.toInt = b.toInt + 4) ([.ref o, .int nn] : List Value) w v w1) (49, [some (.ref o), some (.int nn), some (.int z70)], [], w60, 0, 0)
            refine ax_go 1 (y := (3, [some (.ref o), some (.int nn), some (.int z70)], [], w60, 0, 0)) rfl trivial ?_
            exact ih3 w60 z70 z58 hw66 hf69 hs68 ⟨_, g62, e63⟩ (by omega) (by omega) (by omega) (by omega) (by omega) (by omega)
    change ab_wp ro (ab_Ev ro ab_codes d) 8 false none ab_k_X8_putFour (fun o_1 => ∃ v w1, o_1 = (v, w1, 0, 0) ∧ ty_w sp_ G w1 ∧ F w1 ∧ ty_same G fz w w1 ∧ ck_res G none v ∧ (fun as w _ w1 => ∀ (o : Nat) (n b : Int32), as = [.ref o, .int n] → hx_has w o 8 0 (.int b) → b.toInt ≤ 396 → ∃ b2 : Int32, hx_has w1 o 8 0 (.int b2) ∧ b2.toInt = b.toInt + 4) ([.ref o, .int nn] : List Value) w v w1) (0, [some (.ref o), some (.int nn), none], [], w, 0, 0)
    refine hx_k (l := 2) (m := 24) rfl rfl (by decide) (fun z72 h73 => ?_)
    refine ax_go 1 (y := (3, [some (.ref o), some (.int nn), some (.int z72)], [], w, 0, 0)) rfl trivial ?_
    exact ct3 _ w z72 x4 hw hf (ty_same_rf w) ⟨_, g2, e5⟩ (by omega) (by omega) (by omega) (by omega) (by omega) (Nat.lt_succ_self _)
def fb_ht_X8_feed : List (Nat × Nat) := [(8, 3), (8, 5), (19, 999), (32, 999), (33, 999), (34, 999), (35, 999), (44, 999), (45, 999), (18, 999), (2, 11), (2, 14), (1, 15), (54, 11), (4, 2), (7, 9), (30, 13), (30, 34), (30, 2), (30, 22), (30, 23), (30, 24), (30, 25), (46, 999), (47, 999), (30, 35), (30, 36), (7, 0), (37, 999), (30, 4), (30, 5), (30, 6), (30, 8), (30, 9), (30, 10), (30, 11), (30, 14), (30, 15), (30, 16), (30, 17), (30, 18), (30, 19), (30, 20), (30, 21), (39, 999), (40, 999), (41, 999), (30, 30), (30, 42), (30, 43), (30, 44), (1, 1), (1, 3), (1, 10), (1, 13), (8, 0), (30, 49), (2, 15), (8, 1)]
set_option maxHeartbeats 8000000 in
theorem ht_X8_feed {ro : ab_R} {G : Nat → Nat} {fz : List (Nat × Nat)} {F : ab_W → Prop} (hF : ∀ w w', ty_same G pr_ w w' → F w → F w') (hfz : ∀ q ∈ fz, q ∈ fb_ht_X8_feed) (d : Nat) : hx_ct ro sp_ G F fz (ab_Ev ro ab_codes (d + 2)) 84 [(2, 1, 0), (0, (-2147483648), 2147483647), (0, (-2147483648), 2147483647), (0, (-2147483648), 2147483647), (0, (-2147483648), 2147483647), (0, (-2147483648), 2147483647)] (some (0, (-2147483648), 2147483647)) (fun _ _ => True) (fun as w v w1 => ∀ (o : Nat) (n1 n2 n3 n4 n5 : Int32) (b z : Int32), as = [.ref o, .int n1, .int n2, .int n3, .int n4, .int n5] → v = some (.int z) → hx_has w o 8 0 (.int b) → ∃ b2 : Int32, hx_has w1 o 8 0 (.int b2) ∧ ((b.toInt + 20 ≤ 400 ∧ b2.toInt = b.toInt + 20 ∧ z.toInt = b.toInt + 20) ∨ (¬ b.toInt + 20 ≤ 400 ∧ b2.toInt = b.toInt ∧ z.toInt = -1))) := by
  refine hx_hand (d := d + 1) (by decide) (fun as w hw hf has hP => ?_)
  match as, has with
  | [v0, v1, v2, v3, v4, v5], ⟨h0, h1, h2, h3, h4, h5, _⟩ =>
    obtain ⟨o, rfl, _, hG0⟩ := ty_refn h0 rfl rfl
    replace hG0 : G o = 1 := hG0
    obtain ⟨m1, rfl, hl1, hh1⟩ := ty_int h1 rfl
    replace hl1 : ((-2147483648) : Int) ≤ m1.toInt := hl1
    replace hh1 : m1.toInt ≤ 2147483647 := hh1
    obtain ⟨m2, rfl, hl2, hh2⟩ := ty_int h2 rfl
    replace hl2 : ((-2147483648) : Int) ≤ m2.toInt := hl2
    replace hh2 : m2.toInt ≤ 2147483647 := hh2
    obtain ⟨m3, rfl, hl3, hh3⟩ := ty_int h3 rfl
    replace hl3 : ((-2147483648) : Int) ≤ m3.toInt := hl3
    replace hh3 : m3.toInt ≤ 2147483647 := hh3
    obtain ⟨m4, rfl, hl4, hh4⟩ := ty_int h4 rfl
    replace hl4 : ((-2147483648) : Int) ≤ m4.toInt := hl4
    replace hh4 : m4.toInt ≤ 2147483647 := hh4
    obtain ⟨m5, rfl, hl5, hh5⟩ := ty_int h5 rfl
    replace hl5 : ((-2147483648) : Int) ≤ m5.toInt := hl5
    replace hh5 : m5.toInt ≤ 2147483647 := hh5
    refine ⟨rfl, ?_⟩
    obtain ⟨fs1, g2, -, q3⟩ := hx_obj hw hG0 (s := 1) rfl (by decide)
    obtain ⟨x4, e5, a6, b7⟩ := hx_fi (k := 0) (lo := 0) (hi := 400) q3 rfl
    change ab_wp ro (ab_Ev ro ab_codes (d + 1)) 8 false (some .int) ab_k_X8_feed (fun o_1 => ∃ v w1, o_1 = (v, w1, 0, 0) ∧ ty_w sp_ G w1 ∧ F w1 ∧ ty_same G fz w w1 ∧ ck_res G (some (0, (-2147483648), 2147483647)) v ∧ (fun as w v w1 => ∀ (o : Nat) (n1 n2 n3 n4 n5 : Int32) (b z : Int32), as = [.ref o, .int n1, .int n2, .int n3, .int n4, .int n5] → v = some (.int z) → hx_has w o 8 0 (.int b) → ∃ b2 : Int32, hx_has w1 o 8 0 (.int b2) ∧ ((b.toInt + 20 ≤ 400 ∧ b2.toInt = b.toInt + 20 ∧ z.toInt = b.toInt + 20) ∨ (¬ b.toInt + 20 ≤ 400 ∧ b2.toInt = b.toInt ∧ z.toInt = -1))) ([.ref o, .int m1, .int m2, .int m3, .int m4, .int m5] : List Value) w v w1) (0, [some (.ref o), some (.int m1), some (.int m2), some (.int m3), some (.int m4), some (.int m5)], [], w, 0, 0)
    refine ax_go 1 (y := (1, [some (.ref o), some (.int m1), some (.int m2), some (.int m3), some (.int m4), some (.int m5)], [.ref o], w, 0, 0)) rfl trivial ?_
    refine hx_gf (l := 4) rfl rfl rfl g2 e5 ?_
    refine hx_k (l := 6) (m := 20) rfl rfl (by decide) (fun z8 h9 => ?_)
    refine hx_add (l := 7) rfl rfl (fun z10 h11 => ?_)
    replace h11 := h11 (by omega) (by omega)
    refine hx_k (l := 10) (m := 400) rfl rfl (by decide) (fun z12 h13 => ?_)
    refine hx_ic_le (l := 13) rfl rfl (fun h14 => ?_) (fun h14 => ?_)
    · -- 15
      refine ax_go 2 (y := (17, [some (.ref o), some (.int m1), some (.int m2), some (.int m3), some (.int m4), some (.int m5)], [.int m1, .ref o], w, 0, 0)) rfl trivial ?_
      refine hx_p0 (l := 20) (as := [.ref o, .int m1]) rfl rfl (hx_iv (j := 117) (n := 1) (o := o) (r := []) rfl rfl g2 rfl) (ht_X8_putFour (fz := fz) hF (fun q hq => (by decide +kernel : ∀ q ∈ fb_ht_X8_feed, q ∈ fb_ht_X8_putFour) q (hfz q hq)) (d + 0)) hw hf ⟨(hx_tr (G := G) (s := 1) (b := 0) hG0 (by decide)), (ck_top_ok (G := G) m1), trivial⟩ trivial (fun w15 hw16 hf17 m18 u23 => ?_)
      have hs19 := ty_same_tr (ty_same_rf w) m18
      obtain ⟨bN24, ⟨fs25, gA26, iA27⟩, hb28⟩ := u23 _ _ _ rfl ⟨_, g2, e5⟩ (by omega)
      refine ax_go 2 (y := (22, [some (.ref o), some (.int m1), some (.int m2), some (.int m3), some (.int m4), some (.int m5)], [.int m2, .ref o], w15, 0, 0)) rfl trivial ?_
      refine hx_p0 (l := 25) (as := [.ref o, .int m2]) rfl rfl (hx_iv (j := 117) (n := 1) (o := o) (r := []) rfl rfl gA26 rfl) (ht_X8_putFour (fz := fz) hF (fun q hq => (by decide +kernel : ∀ q ∈ fb_ht_X8_feed, q ∈ fb_ht_X8_putFour) q (hfz q hq)) (d + 0)) hw16 hf17 ⟨(hx_tr (G := G) (s := 1) (b := 0) hG0 (by decide)), (ck_top_ok (G := G) m2), trivial⟩ trivial (fun w29 hw30 hf31 m32 u37 => ?_)
      have hs33 := ty_same_tr hs19 m32
      obtain ⟨bN38, ⟨fs39, gA40, iA41⟩, hb42⟩ := u37 _ _ _ rfl ⟨_, gA26, iA27⟩ (by omega)
      refine ax_go 2 (y := (27, [some (.ref o), some (.int m1), some (.int m2), some (.int m3), some (.int m4), some (.int m5)], [.int m3, .ref o], w29, 0, 0)) rfl trivial ?_
      refine hx_p0 (l := 30) (as := [.ref o, .int m3]) rfl rfl (hx_iv (j := 117) (n := 1) (o := o) (r := []) rfl rfl gA40 rfl) (ht_X8_putFour (fz := fz) hF (fun q hq => (by decide +kernel : ∀ q ∈ fb_ht_X8_feed, q ∈ fb_ht_X8_putFour) q (hfz q hq)) (d + 0)) hw30 hf31 ⟨(hx_tr (G := G) (s := 1) (b := 0) hG0 (by decide)), (ck_top_ok (G := G) m3), trivial⟩ trivial (fun w43 hw44 hf45 m46 u51 => ?_)
      have hs47 := ty_same_tr hs33 m46
      obtain ⟨bN52, ⟨fs53, gA54, iA55⟩, hb56⟩ := u51 _ _ _ rfl ⟨_, gA40, iA41⟩ (by omega)
      refine ax_go 2 (y := (33, [some (.ref o), some (.int m1), some (.int m2), some (.int m3), some (.int m4), some (.int m5)], [.int m4, .ref o], w43, 0, 0)) rfl trivial ?_
      refine hx_p0 (l := 36) (as := [.ref o, .int m4]) rfl rfl (hx_iv (j := 117) (n := 1) (o := o) (r := []) rfl rfl gA54 rfl) (ht_X8_putFour (fz := fz) hF (fun q hq => (by decide +kernel : ∀ q ∈ fb_ht_X8_feed, q ∈ fb_ht_X8_putFour) q (hfz q hq)) (d + 0)) hw44 hf45 ⟨(hx_tr (G := G) (s := 1) (b := 0) hG0 (by decide)), (ck_top_ok (G := G) m4), trivial⟩ trivial (fun w57 hw58 hf59 m60 u65 => ?_)
      have hs61 := ty_same_tr hs47 m60
      obtain ⟨bN66, ⟨fs67, gA68, iA69⟩, hb70⟩ := u65 _ _ _ rfl ⟨_, gA54, iA55⟩ (by omega)
      refine ax_go 2 (y := (39, [some (.ref o), some (.int m1), some (.int m2), some (.int m3), some (.int m4), some (.int m5)], [.int m5, .ref o], w57, 0, 0)) rfl trivial ?_
      refine hx_p0 (l := 42) (as := [.ref o, .int m5]) rfl rfl (hx_iv (j := 117) (n := 1) (o := o) (r := []) rfl rfl gA68 rfl) (ht_X8_putFour (fz := fz) hF (fun q hq => (by decide +kernel : ∀ q ∈ fb_ht_X8_feed, q ∈ fb_ht_X8_putFour) q (hfz q hq)) (d + 0)) hw58 hf59 ⟨(hx_tr (G := G) (s := 1) (b := 0) hG0 (by decide)), (ck_top_ok (G := G) m5), trivial⟩ trivial (fun w71 hw72 hf73 m74 u79 => ?_)
      have hs75 := ty_same_tr hs61 m74
      obtain ⟨bN80, ⟨fs81, gA82, iA83⟩, hb84⟩ := u79 _ _ _ rfl ⟨_, gA68, iA69⟩ (by omega)
      refine ax_go 1 (y := (43, [some (.ref o), some (.int m1), some (.int m2), some (.int m3), some (.int m4), some (.int m5)], [.ref o], w71, 0, 0)) rfl trivial ?_
      refine hx_gf (l := 46) rfl rfl rfl gA82 iA83 ?_
      exact ax_ret rfl rfl trivial ⟨some (.int bN80), _, rfl, hw72, hf73, hs75, (ck_top_ok (G := G) bN80), (fun o1 n0 n1 n2 n3 n4 b1 z1 h1 h2 h3 => by cases h1; cases h2; obtain ⟨fsA, gA, iA⟩ := h3; obtain rfl := hx_inj g2 gA; obtain rfl := hx_inji e5 iA; exact ⟨bN80, ⟨_, gA82, iA83⟩, by omega⟩)⟩
    · -- 13
      refine hx_k (l := 14) (m := (-1)) rfl rfl (by decide) (fun z85 h86 => ?_)
      exact ax_ret rfl rfl trivial ⟨some (.int z85), _, rfl, hw, hf, (ty_same_rf w), (ck_top_ok (G := G) z85), (fun o1 n0 n1 n2 n3 n4 b1 z1 h1 h2 h3 => by cases h1; cases h2; obtain ⟨fsA, gA, iA⟩ := h3; obtain rfl := hx_inj g2 gA; obtain rfl := hx_inji e5 iA; exact ⟨x4, ⟨_, g2, e5⟩, by omega⟩)⟩
def fb_ht_X8_end : List (Nat × Nat) := [(8, 3), (8, 5), (19, 999), (32, 999), (33, 999), (34, 999), (35, 999), (44, 999), (45, 999), (18, 999), (2, 11), (2, 14), (1, 15), (54, 11), (4, 2), (7, 9), (30, 13), (30, 34), (30, 2), (30, 22), (30, 23), (30, 24), (30, 25), (46, 999), (47, 999), (30, 35), (30, 36), (7, 0), (24, 999), (37, 999), (30, 4), (30, 5), (30, 6), (30, 8), (30, 9), (30, 10), (30, 11), (30, 14), (30, 15), (30, 16), (30, 17), (30, 18), (30, 19), (30, 20), (30, 21), (39, 999), (40, 999), (41, 999), (30, 30), (30, 42), (30, 43), (30, 44), (1, 1), (1, 3), (1, 10), (1, 13), (8, 0), (30, 49), (2, 15), (8, 1)]
set_option maxHeartbeats 8000000 in
theorem ht_X8_end {ro : ab_R} {G : Nat → Nat} {fz : List (Nat × Nat)} {F : ab_W → Prop} (hF : ∀ w w', ty_same G pr_ w w' → F w → F w') (hfz : ∀ q ∈ fz, q ∈ fb_ht_X8_end) (d : Nat) : hx_ct ro sp_ G F fz (ab_Ev ro ab_codes (d + 1)) 85 [(2, 1, 0), (0, (-2147483648), 2147483647)] (some (0, (-2147483648), 2147483647)) (fun _ _ => True) (fun as w v w1 => ∀ (o : Nat) (n : Int32) (b z : Int32), as = [.ref o, .int n] → v = some (.int z) → hx_has w o 8 0 (.int b) → ∃ b2 : Int32, hx_has w1 o 8 0 (.int b2) ∧ (((0 ≤ n.toInt ∧ n.toInt ≤ b.toInt) ∧ b2.toInt = n.toInt ∧ z.toInt = n.toInt) ∨ (¬ (0 ≤ n.toInt ∧ n.toInt ≤ b.toInt) ∧ b2.toInt = b.toInt ∧ z.toInt = -1))) := by
  refine hx_hand (d := d + 0) (by decide) (fun as w hw hf has hP => ?_)
  match as, has with
  | [v0, v1], ⟨h0, h1, _⟩ =>
    obtain ⟨o, rfl, _, hG0⟩ := ty_refn h0 rfl rfl
    replace hG0 : G o = 1 := hG0
    obtain ⟨nn, rfl, hl1, hh1⟩ := ty_int h1 rfl
    replace hl1 : ((-2147483648) : Int) ≤ nn.toInt := hl1
    replace hh1 : nn.toInt ≤ 2147483647 := hh1
    refine ⟨rfl, ?_⟩
    obtain ⟨fs1, g2, -, q3⟩ := hx_obj hw hG0 (s := 1) rfl (by decide)
    obtain ⟨x4, e5, a6, b7⟩ := hx_fi (k := 0) (lo := 0) (hi := 400) q3 rfl
    change ab_wp ro (ab_Ev ro ab_codes d) 8 false (some .int) ab_k_X8_end (fun o_1 => ∃ v w1, o_1 = (v, w1, 0, 0) ∧ ty_w sp_ G w1 ∧ F w1 ∧ ty_same G fz w w1 ∧ ck_res G (some (0, (-2147483648), 2147483647)) v ∧ (fun as w v w1 => ∀ (o : Nat) (n : Int32) (b z : Int32), as = [.ref o, .int n] → v = some (.int z) → hx_has w o 8 0 (.int b) → ∃ b2 : Int32, hx_has w1 o 8 0 (.int b2) ∧ (((0 ≤ n.toInt ∧ n.toInt ≤ b.toInt) ∧ b2.toInt = n.toInt ∧ z.toInt = n.toInt) ∨ (¬ (0 ≤ n.toInt ∧ n.toInt ≤ b.toInt) ∧ b2.toInt = b.toInt ∧ z.toInt = -1))) ([.ref o, .int nn] : List Value) w v w1) (0, [some (.ref o), some (.int nn)], [], w, 0, 0)
    refine ax_go 1 (y := (1, [some (.ref o), some (.int nn)], [.int nn], w, 0, 0)) rfl trivial ?_
    refine hx_if_lt (l := 4) rfl rfl (fun h8 => ?_) (fun h8 => ?_)
    · -- 12
      refine hx_k (l := 13) (m := (-1)) rfl rfl (by decide) (fun z9 h10 => ?_)
      exact ax_ret rfl rfl trivial ⟨some (.int z9), _, rfl, hw, hf, (ty_same_rf w), (ck_top_ok (G := G) z9), (fun o1 n0 b1 z1 h1 h2 h3 => by cases h1; cases h2; obtain ⟨fsA, gA, iA⟩ := h3; obtain rfl := hx_inj g2 gA; obtain rfl := hx_inji e5 iA; exact ⟨x4, ⟨_, g2, e5⟩, by omega⟩)⟩
    · -- 4
      refine ax_go 2 (y := (6, [some (.ref o), some (.int nn)], [.ref o, .int nn], w, 0, 0)) rfl trivial ?_
      refine hx_gf (l := 9) rfl rfl rfl g2 e5 ?_
      refine hx_ic_le (l := 12) rfl rfl (fun h11 => ?_) (fun h11 => ?_)
      · -- 14
        refine ax_go 2 (y := (16, [some (.ref o), some (.int nn)], [.int nn, .ref o], w, 0, 0)) rfl trivial ?_
        refine hx_pf (q := (0, 0, 0, 0, 0, 400)) (s := 1) (l := 19) (v := .int nn) rfl rfl rfl (by decide) rfl rfl rfl hw hG0 g2 trivial (hx_ti (G := G) (lo := 0) (hi := 400) (by omega) (by omega)) (fun w12 fs13 g14 e15 o16 n17 hw18 n19 => ?_)
        have hs20 := ty_same_tr (ty_same_rf w) (n19 fz (hx_ok hfz (by decide)))
        have hf21 := hF _ _ (n19 pr_ (by decide)) hf
        refine ax_go 1 (y := (20, [some (.ref o), some (.int nn)], [.int nn], w12, 0, 0)) rfl trivial ?_
        exact ax_ret rfl rfl trivial ⟨some (.int nn), _, rfl, hw18, hf21, hs20, (ck_top_ok (G := G) nn), (fun o1 n0 b1 z1 h1 h2 h3 => by cases h1; cases h2; obtain ⟨fsA, gA, iA⟩ := h3; obtain rfl := hx_inj g2 gA; obtain rfl := hx_inji e5 iA; exact ⟨nn, ⟨_, g14, e15⟩, by omega⟩)⟩
      · -- 12
        refine hx_k (l := 13) (m := (-1)) rfl rfl (by decide) (fun z22 h23 => ?_)
        exact ax_ret rfl rfl trivial ⟨some (.int z22), _, rfl, hw, hf, (ty_same_rf w), (ck_top_ok (G := G) z22), (fun o1 n0 b1 z1 h1 h2 h3 => by cases h1; cases h2; obtain ⟨fsA, gA, iA⟩ := h3; obtain rfl := hx_inj g2 gA; obtain rfl := hx_inji e5 iA; exact ⟨x4, ⟨_, g2, e5⟩, by omega⟩)⟩
def fb_ht_X8_row : List (Nat × Nat) := [(8, 3), (8, 5), (19, 999), (32, 999), (33, 999), (34, 999), (35, 999), (44, 999), (45, 999), (18, 999), (2, 14), (54, 11), (4, 2), (7, 9), (30, 13), (30, 34), (30, 2), (30, 22), (30, 23), (30, 24), (30, 25), (46, 999), (47, 999), (30, 35), (30, 36), (7, 0), (24, 999), (37, 999), (30, 4), (30, 5), (30, 6), (30, 8), (30, 9), (30, 10), (30, 11), (30, 14), (30, 15), (30, 16), (30, 17), (30, 18), (30, 19), (30, 20), (30, 21), (39, 999), (40, 999), (41, 999), (30, 30), (30, 42), (30, 43), (30, 44), (1, 1), (1, 3), (1, 10), (1, 13), (8, 0), (30, 49), (2, 15), (8, 1)]
set_option maxHeartbeats 8000000 in
theorem ht_X8_row {ro : ab_R} {G : Nat → Nat} {fz : List (Nat × Nat)} {F : ab_W → Prop} (hF : ∀ w w', ty_same G pr_ w w' → F w → F w') (hfz : ∀ q ∈ fz, q ∈ fb_ht_X8_row) (d : Nat) : hx_ct ro sp_ G F fz (ab_Ev ro ab_codes (d + 3)) 86 [(2, 1, 0)] (some (0, (-2147483648), 2147483647)) (fun _ _ => True) (fun as w v w1 => ∀ (o : Nat) (b z : Int32), as = [.ref o] → v = some (.int z) → hx_has w o 8 0 (.int b) → ∃ b2 : Int32, hx_has w1 o 8 0 (.int b2) ∧ (b2.toInt = 0)) := by
  refine hx_hand (d := d + 2) (by decide) (fun as w hw hf has hP => ?_)
  match as, has with
  | [v0], ⟨h0, _⟩ =>
    obtain ⟨o, rfl, _, hG0⟩ := ty_refn h0 rfl rfl
    replace hG0 : G o = 1 := hG0
    refine ⟨rfl, ?_⟩
    obtain ⟨fs1, g2, -, q3⟩ := hx_obj hw hG0 (s := 1) rfl (by decide)
    obtain ⟨x4, e5, a6, b7⟩ := hx_fi (k := 0) (lo := 0) (hi := 400) q3 rfl
    have ct20 : ∀ (nq : Nat) (w8 : ab_W) (came : Int32) (stn : Int32) (ax : Int32), ty_w sp_ G w8 → F w8 → ty_same G fz w w8 → (0 ≤ ax.toInt) → (ax.toInt ≤ 402) → (0 ≤ came.toInt) → (came.toInt ≤ ax.toInt) → (0 ≤ stn.toInt) → (stn.toInt ≤ ax.toInt) → (403 - ax.toInt).toNat < nq → ab_wp ro (ab_Ev ro ab_codes (d + 2)) 8 false (some .int) ab_k_X8_row (fun o_1 => ∃ v w1, o_1 = (v, w1, 0, 0) ∧ ty_w sp_ G w1 ∧ F w1 ∧ ty_same G fz w w1 ∧ ck_res G (some (0, (-2147483648), 2147483647)) v ∧ (fun as w v w1 => ∀ (o : Nat) (b z : Int32), as = [.ref o] → v = some (.int z) → hx_has w o 8 0 (.int b) → ∃ b2 : Int32, hx_has w1 o 8 0 (.int b2) ∧ (b2.toInt = 0)) ([.ref o] : List Value) w v w1) (20, [some (.ref o), some (.int came), some (.int stn), some (.int ax)], [], w8, 0, 0) := by
      intro nq
      induction nq with
      | zero => intro w8 came stn ax hw15 hf16 hs17 i9 i10 i11 i12 i13 i14 hm; exact absurd hm (Nat.not_lt_zero _)
      | succ nq ih20 =>
        intro w8 came stn ax hw15 hf16 hs17 i9 i10 i11 i12 i13 i14 hm20
        refine ax_go 2 (y := (22, [some (.ref o), some (.int came), some (.int stn), some (.int ax)], [.ref o, .int ax], w8, 0, 0)) rfl trivial ?_
        obtain ⟨fs18, g19, -, q20⟩ := hx_obj hw15 hG0 (s := 1) rfl (by decide)
        obtain ⟨x21, e22, a23, b24⟩ := hx_fi (k := 0) (lo := 0) (hi := 400) q20 rfl
        refine hx_gf (l := 25) rfl rfl rfl g19 e22 ?_
        refine hx_ic_ge (l := 28) rfl rfl (fun h25 => ?_) (fun h25 => ?_)
        · -- 51
          refine ax_go 1 (y := (52, [some (.ref o), some (.int came), some (.int stn), some (.int ax)], [.ref o], w8, 0, 0)) rfl trivial ?_
          refine hx_k (l := 53) (m := 0) rfl rfl (by decide) (fun z26 h27 => ?_)
          refine hx_pf (q := (0, 0, 0, 0, 0, 400)) (s := 1) (l := 56) (v := .int z26) rfl rfl rfl (by decide) rfl rfl rfl hw15 hG0 g19 trivial (hx_ti (G := G) (lo := 0) (hi := 400) (by omega) (by omega)) (fun w28 fs29 g30 e31 o32 n33 hw34 n35 => ?_)
          have hs36 := ty_same_tr hs17 (n35 fz (hx_ok hfz (by decide)))
          have hf37 := hF _ _ (n35 pr_ (by decide)) hf16
          refine ax_go 2 (y := (58, [some (.ref o), some (.int came), some (.int stn), some (.int ax)], [.int stn, .ref o], w28, 0, 0)) rfl trivial ?_
          refine hx_pf (q := (0, 0, 0, 0, (-2147483648), 2147483647)) (s := 1) (l := 61) (v := .int stn) rfl rfl rfl (by decide) rfl rfl rfl hw34 hG0 g30 trivial (ck_top_ok (G := G) stn) (fun w38 fs39 g40 e41 o42 n43 hw44 n45 => ?_)
          have hs46 := ty_same_tr hs36 (n45 fz (hx_ok hfz (by decide)))
          have hf47 := hF _ _ (n45 pr_ (by decide)) hf37
          refine ax_go 1 (y := (62, [some (.ref o), some (.int came), some (.int stn), some (.int ax)], [.ref o], w38, 0, 0)) rfl trivial ?_
          have q48 := hx_oq hw44 g40 hG0 (s := 1) rfl
          obtain ⟨p49, e50, hG51⟩ := hx_fr (k := 6) (s := 3) q48 rfl
          refine hx_gf (l := 65) rfl rfl rfl g40 e50 ?_
          obtain ⟨fs52, g53, -, q54⟩ := hx_obj hw44 hG51 (s := 3) rfl (by decide)
          refine hx_c0 (l := 68) (as := [.ref p49]) rfl rfl (hx_iv (j := 37) (n := 0) (o := p49) (r := []) rfl rfl g53 rfl) (cc_X4_clear_0 (fz := ([(1, 0)] ++ fz)) hF  (hx_app (by decide +kernel) (fun q hq => (by decide +kernel : ∀ q ∈ fb_ht_X8_row, q ∈ fr_X4_clear_0) q (hfz q hq))) (d + 1)) hw44 hf47 ⟨(hx_tr (G := G) (s := 3) (b := 0) hG51 (by decide)), trivial⟩ (fun w55 hw56 hf57 m58 => ?_)
          have hs59 := ty_same_tr hs46 (hx_sapp m58)
          obtain ⟨fs64, g65, -, q66⟩ := hx_obj hw56 hG0 (s := 1) rfl (by decide)
          refine ax_go 2 (y := (70, [some (.ref o), some (.int came), some (.int stn), some (.int ax)], [.int came, .ref o], w55, 0, 0)) rfl trivial ?_
          refine hx_ci (l := 73) (as := [.ref o, .int came]) rfl rfl (hx_iv (j := 115) (n := 1) (o := o) (r := []) rfl rfl g65 rfl) (cc_X8_settle_0 (fz := ([(1, 0)] ++ fz)) hF  (hx_app (by decide +kernel) (fun q hq => (by decide +kernel : ∀ q ∈ fb_ht_X8_row, q ∈ fr_X8_settle_0) q (hfz q hq))) (d + 1)) hw56 hf57 ⟨(hx_tr (G := G) (s := 1) (b := 0) hG0 (by decide)), (ck_top_ok (G := G) came), trivial⟩ (fun w67 z72 hw68 hf69 m70 a73 b74 u75 => ?_)
          have hs71 := ty_same_tr hs59 (hx_sapp m70)
          obtain ⟨fs76, g77, -, q78⟩ := hx_obj hw68 hG0 (s := 1) rfl (by decide)
          exact ax_ret rfl rfl trivial ⟨some (.int z72), _, rfl, hw68, hf69, hs71, (ck_top_ok (G := G) z72), (fun o1  b1 z1 h1 h2 h3 => by cases h1; cases h2; obtain ⟨fsA, gA, iA⟩ := h3; obtain rfl := hx_inj g2 gA; obtain rfl := hx_inji e5 iA; exact ⟨z26, ⟨_, g77, ((hx_kf m70 (hx_mem hG0 (by decide)) g65 g77).trans ((hx_kf m58 (hx_mem hG0 (by decide)) g40 g65).trans ((o42 0 (by decide)).trans e31)))⟩, by omega⟩)⟩
        · -- 28
          refine ax_go 2 (y := (30, [some (.ref o), some (.int came), some (.int stn), some (.int ax)], [.int ax, .ref o], w8, 0, 0)) rfl trivial ?_
          refine hx_ci (l := 33) (as := [.ref o, .int ax]) rfl rfl (hx_iv (j := 118) (n := 1) (o := o) (r := []) rfl rfl g19 rfl) (h_X8_addFromTape (fz := fz) hF (fun q hq => (by decide +kernel : ∀ q ∈ fb_ht_X8_row, q ∈ fb_X8_addFromTape) q (hfz q hq)) (d + 0)) hw15 hf16 ⟨(hx_tr (G := G) (s := 1) (b := 0) hG0 (by decide)), (hx_ti (G := G) (lo := 0) (hi := 400) (by omega) (by omega)), trivial⟩ (fun w79 z84 hw80 hf81 m82 a85 b86 u87 => ?_)
          have hs83 := ty_same_tr hs17 m82
          refine hx_if_eq (l := 36) rfl rfl (fun h88 => ?_) (fun h88 => ?_)
          · -- 42
            refine hx_iinc (x := stn) (n := 1) (l := 45) rfl rfl rfl (Nat.le_of_ble_eq_true rfl) (by omega) (by omega) (by decide) (fun z89 h90 => ?_)
            change ab_wp ro (ab_Ev ro ab_codes (d + 2)) 8 false (some .int) ab_k_X8_row (fun o_1 => ∃ v w1, o_1 = (v, w1, 0, 0) ∧ ty_w sp_ G w1 ∧ F w1 ∧ ty_same G fz w w1 ∧ ck_res G (some (0, (-2147483648), 2147483647)) v ∧ (fun as w v w1 => ∀ (o : Nat) (b z : Int32), as = [.ref o] → v = some (.int z) → hx_has w o 8 0 (.int b) → ∃ b2 : Int32, hx_has w1 o 8 0 (.int b2) ∧ (b2.toInt = 0)) ([.ref o] : List Value) w v w1) (45, [some (.ref o), some (.int came), some (.int z89), some (.int ax)], [], w79, 0, 0)
            refine hx_iinc (x := ax) (n := 3) (l := 48) rfl rfl rfl (Nat.le_of_ble_eq_true rfl) (by omega) (by omega) (by decide) (fun z91 h92 => ?_)
            change ab_wp ro (ab_Ev ro ab_codes (d + 2)) 8 false (some .int) ab_k_X8_row (fun o_1 => ∃ v w1, o_1 = (v, w1, 0, 0) ∧ ty_w sp_ G w1 ∧ F w1 ∧ ty_same G fz w w1 ∧ ck_res G (some (0, (-2147483648), 2147483647)) v ∧ (fun as w v w1 => ∀ (o : Nat) (b z : Int32), as = [.ref o] → v = some (.int z) → hx_has w o 8 0 (.int b) → ∃ b2 : Int32, hx_has w1 o 8 0 (.int b2) ∧ (b2.toInt = 0)) ([.ref o] : List Value) w v w1) (48, [some (.ref o), some (.int came), some (.int z89), some (.int z91)], [], w79, 0, 0)
            refine ax_go 1 (y := (20, [some (.ref o), some (.int came), some (.int z89), some (.int z91)], [], w79, 0, 0)) rfl trivial ?_
            exact ih20 w79 came z89 z91 hw80 hf81 hs83 (by omega) (by omega) (by omega) (by omega) (by omega) (by omega) (by omega)
          · -- 36
            refine hx_iinc (x := came) (n := 1) (l := 39) rfl rfl rfl (Nat.le_of_ble_eq_true rfl) (by omega) (by omega) (by decide) (fun z93 h94 => ?_)
            change ab_wp ro (ab_Ev ro ab_codes (d + 2)) 8 false (some .int) ab_k_X8_row (fun o_1 => ∃ v w1, o_1 = (v, w1, 0, 0) ∧ ty_w sp_ G w1 ∧ F w1 ∧ ty_same G fz w w1 ∧ ck_res G (some (0, (-2147483648), 2147483647)) v ∧ (fun as w v w1 => ∀ (o : Nat) (b z : Int32), as = [.ref o] → v = some (.int z) → hx_has w o 8 0 (.int b) → ∃ b2 : Int32, hx_has w1 o 8 0 (.int b2) ∧ (b2.toInt = 0)) ([.ref o] : List Value) w v w1) (39, [some (.ref o), some (.int z93), some (.int stn), some (.int ax)], [], w79, 0, 0)
            refine ax_go 1 (y := (45, [some (.ref o), some (.int z93), some (.int stn), some (.int ax)], [], w79, 0, 0)) rfl trivial ?_
            refine hx_iinc (x := ax) (n := 3) (l := 48) rfl rfl rfl (Nat.le_of_ble_eq_true rfl) (by omega) (by omega) (by decide) (fun z95 h96 => ?_)
            change ab_wp ro (ab_Ev ro ab_codes (d + 2)) 8 false (some .int) ab_k_X8_row (fun o_1 => ∃ v w1, o_1 = (v, w1, 0, 0) ∧ ty_w sp_ G w1 ∧ F w1 ∧ ty_same G fz w w1 ∧ ck_res G (some (0, (-2147483648), 2147483647)) v ∧ (fun as w v w1 => ∀ (o : Nat) (b z : Int32), as = [.ref o] → v = some (.int z) → hx_has w o 8 0 (.int b) → ∃ b2 : Int32, hx_has w1 o 8 0 (.int b2) ∧ (b2.toInt = 0)) ([.ref o] : List Value) w v w1) (48, [some (.ref o), some (.int z93), some (.int stn), some (.int z95)], [], w79, 0, 0)
            refine ax_go 1 (y := (20, [some (.ref o), some (.int z93), some (.int stn), some (.int z95)], [], w79, 0, 0)) rfl trivial ?_
            exact ih20 w79 z93 stn z95 hw80 hf81 hs83 (by omega) (by omega) (by omega) (by omega) (by omega) (by omega) (by omega)
    change ab_wp ro (ab_Ev ro ab_codes (d + 2)) 8 false (some .int) ab_k_X8_row (fun o_1 => ∃ v w1, o_1 = (v, w1, 0, 0) ∧ ty_w sp_ G w1 ∧ F w1 ∧ ty_same G fz w w1 ∧ ck_res G (some (0, (-2147483648), 2147483647)) v ∧ (fun as w v w1 => ∀ (o : Nat) (b z : Int32), as = [.ref o] → v = some (.int z) → hx_has w o 8 0 (.int b) → ∃ b2 : Int32, hx_has w1 o 8 0 (.int b2) ∧ (b2.toInt = 0)) ([.ref o] : List Value) w v w1) (0, [some (.ref o), none, none, none], [], w, 0, 0)
    refine ax_go 1 (y := (1, [some (.ref o), none, none, none], [.ref o], w, 0, 0)) rfl trivial ?_
    refine hx_gf (l := 4) rfl rfl rfl g2 e5 ?_
    refine hx_if_ne (l := 7) rfl rfl (fun h97 => ?_) (fun h97 => ?_)
    · -- 14
      refine hx_k (l := 15) (m := 0) rfl rfl (by decide) (fun z98 h99 => ?_)
      refine ax_go 1 (y := (16, [some (.ref o), some (.int z98), none, none], [], w, 0, 0)) rfl trivial ?_
      refine hx_k (l := 17) (m := 0) rfl rfl (by decide) (fun z100 h101 => ?_)
      refine ax_go 1 (y := (18, [some (.ref o), some (.int z98), some (.int z100), none], [], w, 0, 0)) rfl trivial ?_
      refine hx_k (l := 19) (m := 0) rfl rfl (by decide) (fun z102 h103 => ?_)
      refine ax_go 1 (y := (20, [some (.ref o), some (.int z98), some (.int z100), some (.int z102)], [], w, 0, 0)) rfl trivial ?_
      exact ct20 _ w z98 z100 z102 hw hf (ty_same_rf w) (by omega) (by omega) (by omega) (by omega) (by omega) (by omega) (Nat.lt_succ_self _)
    · -- 7
      refine ax_go 1 (y := (8, [some (.ref o), none, none, none], [.ref o], w, 0, 0)) rfl trivial ?_
      refine hx_k (l := 10) (m := (-6)) rfl rfl (by decide) (fun z104 h105 => ?_)
      refine hx_ci (l := 13) (as := [.ref o, .int z104]) rfl rfl (hx_iv (j := 115) (n := 1) (o := o) (r := []) rfl rfl g2 rfl) (cc_X8_settle_0 (fz := ([(1, 0)] ++ fz)) hF  (hx_app (by decide +kernel) (fun q hq => (by decide +kernel : ∀ q ∈ fb_ht_X8_row, q ∈ fr_X8_settle_0) q (hfz q hq))) (d + 1)) hw hf ⟨(hx_tr (G := G) (s := 1) (b := 0) hG0 (by decide)), (ck_top_ok (G := G) z104), trivial⟩ (fun w106 z111 hw107 hf108 m109 a112 b113 u114 => ?_)
      have hs110 := ty_same_tr (ty_same_rf w) (hx_sapp m109)
      obtain ⟨fs115, g116, -, q117⟩ := hx_obj hw107 hG0 (s := 1) rfl (by decide)
      exact ax_ret rfl rfl trivial ⟨some (.int z111), _, rfl, hw107, hf108, hs110, (ck_top_ok (G := G) z111), (fun o1  b1 z1 h1 h2 h3 => by cases h1; cases h2; obtain ⟨fsA, gA, iA⟩ := h3; obtain rfl := hx_inj g2 gA; obtain rfl := hx_inji e5 iA; exact ⟨x4, ⟨_, g116, ((hx_kf m109 (hx_mem hG0 (by decide)) g2 g116).trans e5)⟩, by omega⟩)⟩
def fb_ht_X8_orders : List (Nat × Nat) := [(32, 999), (33, 999), (34, 999), (35, 999), (44, 999), (45, 999), (18, 999), (2, 11), (2, 14), (1, 15), (7, 9), (30, 13), (30, 34), (30, 2), (30, 22), (30, 23), (30, 24), (30, 25), (46, 999), (47, 999), (30, 35), (30, 36), (7, 0), (24, 999), (37, 999), (30, 4), (30, 5), (30, 6), (30, 8), (30, 9), (30, 10), (30, 11), (30, 14), (30, 15), (30, 16), (30, 17), (30, 18), (30, 19), (30, 20), (30, 21), (39, 999), (40, 999), (41, 999), (30, 30), (30, 42), (30, 43), (30, 44), (1, 1), (1, 3), (1, 10), (8, 0), (30, 49), (2, 15), (8, 1)]
set_option maxHeartbeats 8000000 in
theorem ht_X8_orders {ro : ab_R} {G : Nat → Nat} {fz : List (Nat × Nat)} (hfz : ∀ q ∈ fz, q ∈ fb_ht_X8_orders) (d : Nat) : hx_ct ro sp_ G (FA G) fz (ab_Ev ro ab_codes (d + 60)) 89 [(2, 1, 0)] (some (0, (-2147483648), 2147483647)) (fun _ _ => True) (fun as w v w1 => ∀ (o : Nat) (b z : Int32), as = [.ref o] → v = some (.int z) → hx_has w o 8 0 (.int b) → ∃ b2 : Int32, hx_has w1 o 8 0 (.int b2) ∧ (b2.toInt = 0)) := by
  have hFF := FA_same (G := G)
  refine hx_hand (d := d + 59) (by decide) (fun as w hw hf has hP => ?_)
  match as, has with
  | [v0], ⟨h0, _⟩ =>
    obtain ⟨o, rfl, _, hG0⟩ := ty_refn h0 rfl rfl
    replace hG0 : G o = 1 := hG0
    refine ⟨rfl, ?_⟩
    obtain ⟨fs1, g2, -, q3⟩ := hx_obj hw hG0 (s := 1) rfl (by decide)
    obtain ⟨x4, e5, a6, b7⟩ := hx_fi (k := 0) (lo := 0) (hi := 400) q3 rfl
    change ab_wp ro (ab_Ev ro ab_codes (d + 59)) 8 false (some .int) ab_k_X8_orders (fun o_1 => ∃ v w1, o_1 = (v, w1, 0, 0) ∧ ty_w sp_ G w1 ∧ (FA G) w1 ∧ ty_same G fz w w1 ∧ ck_res G (some (0, (-2147483648), 2147483647)) v ∧ (fun as w v w1 => ∀ (o : Nat) (b z : Int32), as = [.ref o] → v = some (.int z) → hx_has w o 8 0 (.int b) → ∃ b2 : Int32, hx_has w1 o 8 0 (.int b2) ∧ (b2.toInt = 0)) ([.ref o] : List Value) w v w1) (0, [some (.ref o), none], [], w, 0, 0)
    refine ax_go 1 (y := (1, [some (.ref o), none], [.ref o], w, 0, 0)) rfl trivial ?_
    refine hx_gf (l := 4) rfl rfl rfl g2 e5 ?_
    refine ax_go 2 (y := (6, [some (.ref o), some (.int x4)], [.ref o], w, 0, 0)) rfl trivial ?_
    refine hx_k (l := 7) (m := 0) rfl rfl (by decide) (fun z8 h9 => ?_)
    refine hx_pf (q := (0, 0, 0, 0, 0, 400)) (s := 1) (l := 10) (v := .int z8) rfl rfl rfl (by decide) rfl rfl rfl hw hG0 g2 trivial (hx_ti (G := G) (lo := 0) (hi := 400) (by omega) (by omega)) (fun w10 fs11 g12 e13 o14 n15 hw16 n17 => ?_)
    have hs18 := ty_same_tr (ty_same_rf w) (n17 fz (hx_ok hfz (by decide)))
    have hf19 := hFF _ _ (n17 pr_ (by decide)) hf
    refine ax_go 1 (y := (11, [some (.ref o), some (.int x4)], [.ref o], w10, 0, 0)) rfl trivial ?_
    refine hx_k (l := 12) (m := (-1)) rfl rfl (by decide) (fun z20 h21 => ?_)
    refine hx_pf (q := (0, 0, 0, 0, (-2147483648), 2147483647)) (s := 1) (l := 15) (v := .int z20) rfl rfl rfl (by decide) rfl rfl rfl hw16 hG0 g12 trivial (ck_top_ok (G := G) z20) (fun w22 fs23 g24 e25 o26 n27 hw28 n29 => ?_)
    have hs30 := ty_same_tr hs18 (n29 fz (hx_ok hfz (by decide)))
    have hf31 := hFF _ _ (n29 pr_ (by decide)) hf19
    refine ax_go 2 (y := (17, [some (.ref o), some (.int x4)], [.ref o, .ref o], w22, 0, 0)) rfl trivial ?_
    have q32 := hx_oq hw28 g24 hG0 (s := 1) rfl
    obtain ⟨p33, e34, hG35⟩ := hx_fr (k := 10) (s := 8) q32 rfl
    refine hx_gf (l := 20) rfl rfl rfl g24 e34 ?_
    refine ax_go 1 (y := (21, [some (.ref o), some (.int x4)], [.int x4, .ref p33, .ref o], w22, 0, 0)) rfl trivial ?_
    refine hx_k (l := 22) (m := 1) rfl rfl (by decide) (fun z36 h37 => ?_)
    obtain ⟨fs38, g39, -, q40⟩ := hx_obj hw28 hG35 (s := 8) rfl (by decide)
    refine hx_ci (l := 25) (as := [.ref p33, .int x4, .int z36]) rfl rfl (hx_iv (j := 43) (n := 2) (o := p33) (r := [.ref o]) rfl rfl g39 rfl) (cc_X5_read_0 (fz := ([(1, 0)] ++ fz)) hFF (fun d => cgT (h_X5_step (fz := ([(1, 0)] ++ fz)) (FA_Ts (G := G)) (hx_app (by decide +kernel) (fun q hq => (by decide +kernel : ∀ q ∈ fb_ht_X8_orders, q ∈ fb_X5_step) q (hfz q hq))) d)) (fun d => cgT (h_X5_fail (fz := ([(1, 0)] ++ fz)) (FA_Ts (G := G)) (hx_app (by decide +kernel) (fun q hq => (by decide +kernel : ∀ q ∈ fb_ht_X8_orders, q ∈ fb_X5_fail) q (hfz q hq))) d)) (fun d => h_X7_openClause (fz := ([(1, 0)] ++ fz)) hFF (hx_app (by decide +kernel) (fun q hq => (by decide +kernel : ∀ q ∈ fb_ht_X8_orders, q ∈ fb_X7_openClause) q (hfz q hq))) d) (fun d => h_X5_is (fz := ([(1, 0)] ++ fz)) hFF (hx_app (by decide +kernel) (fun q hq => (by decide +kernel : ∀ q ∈ fb_ht_X8_orders, q ∈ fb_X5_is) q (hfz q hq))) d) (fun d => cgT (h_X5_isSign (fz := ([(1, 0)] ++ fz)) (FA_Ts (G := G)) (hx_app (by decide +kernel) (fun q hq => (by decide +kernel : ∀ q ∈ fb_ht_X8_orders, q ∈ fb_X5_isSign) q (hfz q hq))) d)) (fun d => h_X5_emit (fz := ([(1, 0)] ++ fz)) hFF (hx_app (by decide +kernel) (fun q hq => (by decide +kernel : ∀ q ∈ fb_ht_X8_orders, q ∈ fb_X5_emit) q (hfz q hq))) d) (hx_app (by decide +kernel) (fun q hq => (by decide +kernel : ∀ q ∈ fb_ht_X8_orders, q ∈ fr_X5_read_0) q (hfz q hq))) (d + 23)) hw28 hf31 ⟨(hx_tr (G := G) (s := 8) (b := 0) hG35 (by decide)), (hx_ti (G := G) (lo := 0) (hi := 400) (by omega) (by omega)), (hx_ti (G := G) (lo := 0) (hi := 1) (by omega) (by omega)), trivial⟩ (fun w41 z46 hw42 hf43 m44 a47 b48 u49 => ?_)
    have hs45 := ty_same_tr hs30 (hx_sapp m44)
    obtain ⟨fs50, g51, -, q52⟩ := hx_obj hw42 hG0 (s := 1) rfl (by decide)
    refine hx_pf (q := (0, 0, 0, 0, (-2147483648), 2147483647)) (s := 1) (l := 28) (v := .int z46) rfl rfl rfl (by decide) rfl rfl rfl hw42 hG0 g51 trivial (ck_top_ok (G := G) z46) (fun w53 fs54 g55 e56 o57 n58 hw59 n60 => ?_)
    have hs61 := ty_same_tr hs45 (n60 fz (hx_ok hfz (by decide)))
    have hf62 := hFF _ _ (n60 pr_ (by decide)) hf43
    refine ax_go 1 (y := (29, [some (.ref o), some (.int x4)], [.ref o], w53, 0, 0)) rfl trivial ?_
    refine hx_gf (l := 32) rfl rfl rfl g55 e56 ?_
    refine hx_k (l := 33) (m := (-1)) rfl rfl (by decide) (fun z63 h64 => ?_)
    refine hx_ic_eq (l := 36) rfl rfl (fun h65 => ?_) (fun h65 => ?_)
    · -- 43
      refine ax_go 1 (y := (44, [some (.ref o), some (.int x4)], [.ref o], w53, 0, 0)) rfl trivial ?_
      have q66 := hx_oq hw59 g55 hG0 (s := 1) rfl
      obtain ⟨p67, e68, hG69⟩ := hx_fr (k := 9) (s := 7) q66 rfl
      refine hx_gf (l := 47) rfl rfl rfl g55 e68 ?_
      obtain ⟨fs70, g71, -, q72⟩ := hx_obj hw59 hG69 (s := 7) rfl (by decide)
      obtain ⟨p73, e74, hG75⟩ := hx_fr (k := 1) (s := 54) q72 rfl
      refine hx_gf (l := 50) rfl rfl rfl g71 e74 ?_
      refine ax_go 1 (y := (51, [some (.ref o), some (.int x4)], [.ref o, .ref p73], w53, 0, 0)) rfl trivial ?_
      obtain ⟨p76, e77, hG78⟩ := hx_fr (k := 1) (s := 2) q66 rfl
      refine hx_gf (l := 54) rfl rfl rfl g55 e77 ?_
      obtain ⟨fs79, g80, -, q81⟩ := hx_obj hw59 hG75 (s := 54) rfl (by decide)
      refine hx_c0 (l := 57) (as := [.ref p73, .ref p76]) rfl rfl (hx_iv (j := 16) (n := 1) (o := p73) (r := []) rfl rfl g80 rfl) (cc_X1_takeFrom_0 (fz := ([(1, 0)] ++ fz)) hFF  (hx_app (by decide +kernel) (fun q hq => (by decide +kernel : ∀ q ∈ fb_ht_X8_orders, q ∈ fr_X1_takeFrom_0) q (hfz q hq))) (d + 58)) hw59 hf62 ⟨(hx_tr (G := G) (s := 54) (b := 0) hG75 (by decide)), (hx_tr (G := G) (s := 2) (b := 0) hG78 (by decide)), trivial⟩ (fun w82 hw83 hf84 m85 => ?_)
      have hs86 := ty_same_tr hs61 (hx_sapp m85)
      obtain ⟨fs91, g92, -, q93⟩ := hx_obj hw83 hG0 (s := 1) rfl (by decide)
      refine ax_go 2 (y := (59, [some (.ref o), some (.int x4)], [.ref o, .ref o], w82, 0, 0)) rfl trivial ?_
      obtain ⟨p94, e95, hG96⟩ := hx_fr (k := 8) (s := 6) q93 rfl
      refine hx_gf (l := 62) rfl rfl rfl g92 e95 ?_
      refine ax_go 1 (y := (63, [some (.ref o), some (.int x4)], [.ref o, .ref p94, .ref o], w82, 0, 0)) rfl trivial ?_
      obtain ⟨p97, e98, hG99⟩ := hx_fr (k := 10) (s := 8) q93 rfl
      refine hx_gf (l := 66) rfl rfl rfl g92 e98 ?_
      obtain ⟨fs100, g101, -, q102⟩ := hx_obj hw83 hG99 (s := 8) rfl (by decide)
      obtain ⟨p103, e104, hG105⟩ := hx_fr (k := 1) (s := 9) q102 rfl
      refine hx_gf (l := 69) rfl rfl rfl g101 e104 ?_
      refine ax_go 1 (y := (70, [some (.ref o), some (.int x4)], [.ref o, .ref p103, .ref p94, .ref o], w82, 0, 0)) rfl trivial ?_
      obtain ⟨p106, e107, hG108⟩ := hx_fr (k := 9) (s := 7) q93 rfl
      refine hx_gf (l := 73) rfl rfl rfl g92 e107 ?_
      obtain ⟨fs109, g110, -, q111⟩ := hx_obj hw83 hG108 (s := 7) rfl (by decide)
      obtain ⟨p112, e113, hG114⟩ := hx_fr (k := 1) (s := 54) q111 rfl
      refine hx_gf (l := 76) rfl rfl rfl g110 e113 ?_
      refine ax_go 1 (y := (77, [some (.ref o), some (.int x4)], [.null, .ref p112, .ref p103, .ref p94, .ref o], w82, 0, 0)) rfl trivial ?_
      obtain ⟨fs115, g116, -, q117⟩ := hx_obj hw83 hG96 (s := 6) rfl (by decide)
      refine hx_ci (l := 80) (as := [.ref p94, .ref p103, .ref p112, .null]) rfl rfl (hx_iv (j := 69) (n := 3) (o := p94) (r := [.ref o]) rfl rfl g116 rfl) (cc_X6_runAll_0 (fz := ([(1, 0)] ++ fz)) hFF (fun d => h_X7_part0 (fz := ([(1, 0)] ++ fz)) hFF (hx_app (by decide +kernel) (fun q hq => (by decide +kernel : ∀ q ∈ fb_ht_X8_orders, q ∈ fb_X7_part0) q (hfz q hq))) d) (fun d => h_X2_value0 (fz := ([(1, 0)] ++ fz)) hFF (hx_app (by decide +kernel) (fun q hq => (by decide +kernel : ∀ q ∈ fb_ht_X8_orders, q ∈ fb_X2_value0) q (hfz q hq))) d) (fun d => h_X7_part1 (fz := ([(1, 0)] ++ fz)) hFF (hx_app (by decide +kernel) (fun q hq => (by decide +kernel : ∀ q ∈ fb_ht_X8_orders, q ∈ fb_X7_part1) q (hfz q hq))) d) (fun d => h_X1_has1 (fz := ([(1, 0)] ++ fz)) hFF (hx_app (by decide +kernel) (fun q hq => (by decide +kernel : ∀ q ∈ fb_ht_X8_orders, q ∈ fb_X1_has1) q (hfz q hq))) d) (fun d => h_X2_value1 (fz := ([(1, 0)] ++ fz)) hFF (hx_app (by decide +kernel) (fun q hq => (by decide +kernel : ∀ q ∈ fb_ht_X8_orders, q ∈ fb_X2_value1) q (hfz q hq))) d) (fun d => h_X1_passDay0 (fz := ([(1, 0)] ++ fz)) hFF (hx_app (by decide +kernel) (fun q hq => (by decide +kernel : ∀ q ∈ fb_ht_X8_orders, q ∈ fb_X1_passDay0) q (hfz q hq))) d) (hx_app (by decide +kernel) (fun q hq => (by decide +kernel : ∀ q ∈ fb_ht_X8_orders, q ∈ fr_X6_runAll_0) q (hfz q hq))) (d + 52)) hw83 hf84 ⟨(hx_tr (G := G) (s := 6) (b := 0) hG96 (by decide)), (hx_tr (G := G) (s := 9) (b := 0) hG105 (by decide)), (hx_tr (G := G) (s := 54) (b := 0) hG114 (by decide)), (hx_tn (G := G)), trivial⟩ (fun w118 z123 hw119 hf120 m121 a124 b125 u126 => ?_)
      have hs122 := ty_same_tr hs86 (hx_sapp m121)
      obtain ⟨fs127, g128, -, q129⟩ := hx_obj hw119 hG0 (s := 1) rfl (by decide)
      refine hx_pf (q := (0, 0, 0, 0, (-2147483648), 2147483647)) (s := 1) (l := 83) (v := .int z123) rfl rfl rfl (by decide) rfl rfl rfl hw119 hG0 g128 trivial (ck_top_ok (G := G) z123) (fun w130 fs131 g132 e133 o134 n135 hw136 n137 => ?_)
      have hs138 := ty_same_tr hs122 (n137 fz (hx_ok hfz (by decide)))
      have hf139 := hFF _ _ (n137 pr_ (by decide)) hf120
      refine ax_go 1 (y := (84, [some (.ref o), some (.int x4)], [.ref o], w130, 0, 0)) rfl trivial ?_
      refine hx_gf (l := 87) rfl rfl rfl g132 e133 ?_
      refine hx_k (l := 88) (m := (-1)) rfl rfl (by decide) (fun z140 h141 => ?_)
      refine hx_ic_eq (l := 91) rfl rfl (fun h142 => ?_) (fun h142 => ?_)
      · -- 98
        refine ax_go 1 (y := (99, [some (.ref o), some (.int x4)], [.ref o], w130, 0, 0)) rfl trivial ?_
        have q143 := hx_oq hw136 g132 hG0 (s := 1) rfl
        obtain ⟨p144, e145, hG146⟩ := hx_fr (k := 8) (s := 6) q143 rfl
        refine hx_gf (l := 102) rfl rfl rfl g132 e145 ?_
        refine ax_go 1 (y := (103, [some (.ref o), some (.int x4)], [.ref o, .ref p144], w130, 0, 0)) rfl trivial ?_
        obtain ⟨p147, e148, hG149⟩ := hx_fr (k := 10) (s := 8) q143 rfl
        refine hx_gf (l := 106) rfl rfl rfl g132 e148 ?_
        obtain ⟨fs150, g151, -, q152⟩ := hx_obj hw136 hG149 (s := 8) rfl (by decide)
        obtain ⟨p153, e154, hG155⟩ := hx_fr (k := 1) (s := 9) q152 rfl
        refine hx_gf (l := 109) rfl rfl rfl g151 e154 ?_
        refine ax_go 1 (y := (110, [some (.ref o), some (.int x4)], [.ref o, .ref p153, .ref p144], w130, 0, 0)) rfl trivial ?_
        obtain ⟨p156, e157, hG158⟩ := hx_fr (k := 1) (s := 2) q143 rfl
        refine hx_gf (l := 113) rfl rfl rfl g132 e157 ?_
        refine ax_go 1 (y := (114, [some (.ref o), some (.int x4)], [.ref o, .ref p156, .ref p153, .ref p144], w130, 0, 0)) rfl trivial ?_
        obtain ⟨p159, e160, hG161⟩ := hx_fr (k := 6) (s := 3) q143 rfl
        refine hx_gf (l := 117) rfl rfl rfl g132 e160 ?_
        obtain ⟨fs162, g163, -, q164⟩ := hx_obj hw136 hG146 (s := 6) rfl (by decide)
        refine hx_ci (l := 120) (as := [.ref p144, .ref p153, .ref p156, .ref p159]) rfl rfl (hx_iv (j := 69) (n := 3) (o := p144) (r := []) rfl rfl g163 rfl) (cc_X6_runAll_1 (fz := ([(1, 0)] ++ fz)) hFF (fun d => h_X1_has0 (fz := ([(1, 0)] ++ fz)) hFF (hx_app (by decide +kernel) (fun q hq => (by decide +kernel : ∀ q ∈ fb_ht_X8_orders, q ∈ fb_X1_has0) q (hfz q hq))) d) (fun d => h_X7_part0 (fz := ([(1, 0)] ++ fz)) hFF (hx_app (by decide +kernel) (fun q hq => (by decide +kernel : ∀ q ∈ fb_ht_X8_orders, q ∈ fb_X7_part0) q (hfz q hq))) d) (fun d => h_X2_value0 (fz := ([(1, 0)] ++ fz)) hFF (hx_app (by decide +kernel) (fun q hq => (by decide +kernel : ∀ q ∈ fb_ht_X8_orders, q ∈ fb_X2_value0) q (hfz q hq))) d) (fun d => h_X7_part1 (fz := ([(1, 0)] ++ fz)) hFF (hx_app (by decide +kernel) (fun q hq => (by decide +kernel : ∀ q ∈ fb_ht_X8_orders, q ∈ fb_X7_part1) q (hfz q hq))) d) (fun d => h_X2_value1 (fz := ([(1, 0)] ++ fz)) hFF (hx_app (by decide +kernel) (fun q hq => (by decide +kernel : ∀ q ∈ fb_ht_X8_orders, q ∈ fb_X2_value1) q (hfz q hq))) d) (fun d => cgP (h_X4_note (fz := ([(1, 0)] ++ fz)) (FA_Ps (G := G)) (hx_app (by decide +kernel) (fun q hq => (by decide +kernel : ∀ q ∈ fb_ht_X8_orders, q ∈ fb_X4_note) q (hfz q hq))) d)) (fun d => h_X1_passDay1 (fz := ([(1, 0)] ++ fz)) hFF (hx_app (by decide +kernel) (fun q hq => (by decide +kernel : ∀ q ∈ fb_ht_X8_orders, q ∈ fb_X1_passDay1) q (hfz q hq))) d) (hx_app (by decide +kernel) (fun q hq => (by decide +kernel : ∀ q ∈ fb_ht_X8_orders, q ∈ fr_X6_runAll_1) q (hfz q hq))) (d + 52)) hw136 hf139 ⟨(hx_tr (G := G) (s := 6) (b := 0) hG146 (by decide)), (hx_tr (G := G) (s := 9) (b := 0) hG155 (by decide)), (hx_tr (G := G) (s := 2) (b := 0) hG158 (by decide)), (hx_tr (G := G) (s := 3) (b := 0) hG161 (by decide)), trivial⟩ (fun w165 z170 hw166 hf167 m168 a171 b172 u173 => ?_)
        have hs169 := ty_same_tr hs138 (hx_sapp m168)
        obtain ⟨fs174, g175, -, q176⟩ := hx_obj hw166 hG0 (s := 1) rfl (by decide)
        refine ax_go 3 (y := (123, [some (.ref o), some (.int x4)], [.ref o, .ref o], w165, 0, 0)) rfl trivial ?_
        obtain ⟨p177, e178, hG179⟩ := hx_fr (k := 8) (s := 6) q176 rfl
        refine hx_gf (l := 126) rfl rfl rfl g175 e178 ?_
        obtain ⟨fs180, g181, -, q182⟩ := hx_obj hw166 hG179 (s := 6) rfl (by decide)
        obtain ⟨x183, e184, a185, b186⟩ := hx_fi (k := 6) (lo := (-2147483648)) (hi := 2147483647) q182 rfl
        refine hx_gf (l := 129) rfl rfl rfl g181 e184 ?_
        refine hx_ci (l := 132) (as := [.ref o, .int x183]) rfl rfl (hx_iv (j := 115) (n := 1) (o := o) (r := []) rfl rfl g175 rfl) (cc_X8_settle_0 (fz := ([(1, 0)] ++ fz)) hFF  (hx_app (by decide +kernel) (fun q hq => (by decide +kernel : ∀ q ∈ fb_ht_X8_orders, q ∈ fr_X8_settle_0) q (hfz q hq))) (d + 58)) hw166 hf167 ⟨(hx_tr (G := G) (s := 1) (b := 0) hG0 (by decide)), (ck_top_ok (G := G) x183), trivial⟩ (fun w187 z192 hw188 hf189 m190 a193 b194 u195 => ?_)
        have hs191 := ty_same_tr hs169 (hx_sapp m190)
        obtain ⟨fs196, g197, -, q198⟩ := hx_obj hw188 hG0 (s := 1) rfl (by decide)
        exact ax_ret rfl rfl trivial ⟨some (.int z192), _, rfl, hw188, hf189, hs191, (ck_top_ok (G := G) z192), (fun o1  b1 z1 h1 h2 h3 => by cases h1; cases h2; obtain ⟨fsA, gA, iA⟩ := h3; obtain rfl := hx_inj g2 gA; obtain rfl := hx_inji e5 iA; exact ⟨z8, ⟨_, g197, ((hx_kf m190 (hx_mem hG0 (by decide)) g175 g197).trans ((hx_kf m168 (hx_mem hG0 (by decide)) g132 g175).trans ((o134 0 (by decide)).trans ((hx_kf m121 (hx_mem hG0 (by decide)) g92 g128).trans ((hx_kf m85 (hx_mem hG0 (by decide)) g55 g92).trans ((o57 0 (by decide)).trans ((hx_kf m44 (hx_mem hG0 (by decide)) g24 g51).trans ((o26 0 (by decide)).trans e13))))))))⟩, by omega⟩)⟩
      · -- 91
        refine ax_go 1 (y := (92, [some (.ref o), some (.int x4)], [.ref o], w130, 0, 0)) rfl trivial ?_
        refine hx_k (l := 94) (m := (-3)) rfl rfl (by decide) (fun z199 h200 => ?_)
        refine hx_ci (l := 97) (as := [.ref o, .int z199]) rfl rfl (hx_iv (j := 115) (n := 1) (o := o) (r := []) rfl rfl g132 rfl) (cc_X8_settle_0 (fz := ([(1, 0)] ++ fz)) hFF  (hx_app (by decide +kernel) (fun q hq => (by decide +kernel : ∀ q ∈ fb_ht_X8_orders, q ∈ fr_X8_settle_0) q (hfz q hq))) (d + 58)) hw136 hf139 ⟨(hx_tr (G := G) (s := 1) (b := 0) hG0 (by decide)), (ck_top_ok (G := G) z199), trivial⟩ (fun w201 z206 hw202 hf203 m204 a207 b208 u209 => ?_)
        have hs205 := ty_same_tr hs138 (hx_sapp m204)
        obtain ⟨fs210, g211, -, q212⟩ := hx_obj hw202 hG0 (s := 1) rfl (by decide)
        exact ax_ret rfl rfl trivial ⟨some (.int z206), _, rfl, hw202, hf203, hs205, (ck_top_ok (G := G) z206), (fun o1  b1 z1 h1 h2 h3 => by cases h1; cases h2; obtain ⟨fsA, gA, iA⟩ := h3; obtain rfl := hx_inj g2 gA; obtain rfl := hx_inji e5 iA; exact ⟨z8, ⟨_, g211, ((hx_kf m204 (hx_mem hG0 (by decide)) g132 g211).trans ((o134 0 (by decide)).trans ((hx_kf m121 (hx_mem hG0 (by decide)) g92 g128).trans ((hx_kf m85 (hx_mem hG0 (by decide)) g55 g92).trans ((o57 0 (by decide)).trans ((hx_kf m44 (hx_mem hG0 (by decide)) g24 g51).trans ((o26 0 (by decide)).trans e13)))))))⟩, by omega⟩)⟩
    · -- 36
      refine ax_go 1 (y := (37, [some (.ref o), some (.int x4)], [.ref o], w53, 0, 0)) rfl trivial ?_
      refine hx_k (l := 39) (m := (-6)) rfl rfl (by decide) (fun z213 h214 => ?_)
      refine hx_ci (l := 42) (as := [.ref o, .int z213]) rfl rfl (hx_iv (j := 115) (n := 1) (o := o) (r := []) rfl rfl g55 rfl) (cc_X8_settle_0 (fz := ([(1, 0)] ++ fz)) hFF  (hx_app (by decide +kernel) (fun q hq => (by decide +kernel : ∀ q ∈ fb_ht_X8_orders, q ∈ fr_X8_settle_0) q (hfz q hq))) (d + 58)) hw59 hf62 ⟨(hx_tr (G := G) (s := 1) (b := 0) hG0 (by decide)), (ck_top_ok (G := G) z213), trivial⟩ (fun w215 z220 hw216 hf217 m218 a221 b222 u223 => ?_)
      have hs219 := ty_same_tr hs61 (hx_sapp m218)
      obtain ⟨fs224, g225, -, q226⟩ := hx_obj hw216 hG0 (s := 1) rfl (by decide)
      exact ax_ret rfl rfl trivial ⟨some (.int z220), _, rfl, hw216, hf217, hs219, (ck_top_ok (G := G) z220), (fun o1  b1 z1 h1 h2 h3 => by cases h1; cases h2; obtain ⟨fsA, gA, iA⟩ := h3; obtain rfl := hx_inj g2 gA; obtain rfl := hx_inji e5 iA; exact ⟨z8, ⟨_, g225, ((hx_kf m218 (hx_mem hG0 (by decide)) g55 g225).trans ((o57 0 (by decide)).trans ((hx_kf m44 (hx_mem hG0 (by decide)) g24 g51).trans ((o26 0 (by decide)).trans e13))))⟩, by omega⟩)⟩
