/-! walks by program: what a law tells -/
def fb_hp_X9_tells : List (Nat × Nat) := [(8, 3), (8, 5), (19, 999), (32, 999), (33, 999), (34, 999), (35, 999), (44, 999), (45, 999), (1, 0), (18, 999), (2, 11), (2, 14), (1, 15), (54, 11), (4, 2), (7, 9), (30, 13), (30, 34), (30, 2), (46, 999), (47, 999), (30, 35), (30, 36), (7, 0), (24, 999), (37, 999), (30, 4), (30, 5), (30, 6), (30, 8), (30, 9), (30, 10), (30, 11), (30, 14), (30, 15), (30, 16), (30, 17), (30, 18), (30, 19), (30, 20), (30, 21), (39, 999), (40, 999), (41, 999), (30, 30), (30, 42), (30, 43), (30, 44), (1, 1), (1, 3), (1, 10), (1, 13), (8, 0), (30, 49), (2, 15), (8, 1)]
set_option maxHeartbeats 8000000 in
theorem hp_X9_tells {ro : ab_R} {G : Nat → Nat} {fz : List (Nat × Nat)} {F : ab_W → Prop} (hF : ∀ w w', smt G w w' → F w → F w') (hfz : ∀ q ∈ fz, q ∈ fb_hp_X9_tells) (d : Nat) : hx_ct ro sp_ G (F9 G F) fz (ab_Ev ro ab_codes (d + 62)) 183 [(2, 30, 0), (0, (-2147483648), 2147483647), (0, 0, 9), (0, (-2147483648), 2147483647), (0, (-2147483648), 2147483647), (0, (-2147483648), 2147483647), (0, (-2147483648), 2147483647)] (some (0, (-2147483648), 2147483647)) (fun as _ => ∀ (o : Nat) (hd p ov lo hi wo : Int32), as = [.ref o, .int hd, .int p, .int ov, .int lo, .int hi, .int wo] → lo.toInt ≤ wo.toInt ∧ wo.toInt ≤ hi.toInt) (fun as _ v _ => ∀ (o : Nat) (hd p ov lo hi wo z : Int32), as = [.ref o, .int hd, .int p, .int ov, .int lo, .int hi, .int wo] → v = some (.int z) → lo.toInt ≤ z.toInt ∧ z.toInt ≤ hi.toInt) := by
  have hFF := F9_same hF
  refine hx_hand (d := d + 61) (by decide) (fun as w hw hf has hP => ?_)
  match as, has with
  | [v0, v1, v2, v3, v4, v5, v6], ⟨h0, h1, h2, h3, h4, h5, h6, _⟩ =>
    obtain ⟨o, rfl, _, hG0⟩ := ty_refn h0 rfl rfl
    replace hG0 : G o = 30 := hG0
    obtain ⟨hd, rfl, hl1, hh1⟩ := ty_int h1 rfl
    replace hl1 : ((-2147483648) : Int) ≤ hd.toInt := hl1
    replace hh1 : hd.toInt ≤ 2147483647 := hh1
    obtain ⟨p, rfl, hl2, hh2⟩ := ty_int h2 rfl
    replace hl2 : (0 : Int) ≤ p.toInt := hl2
    replace hh2 : p.toInt ≤ 9 := hh2
    obtain ⟨ov, rfl, hl3, hh3⟩ := ty_int h3 rfl
    replace hl3 : ((-2147483648) : Int) ≤ ov.toInt := hl3
    replace hh3 : ov.toInt ≤ 2147483647 := hh3
    obtain ⟨blo, rfl, hl4, hh4⟩ := ty_int h4 rfl
    replace hl4 : ((-2147483648) : Int) ≤ blo.toInt := hl4
    replace hh4 : blo.toInt ≤ 2147483647 := hh4
    obtain ⟨bhi, rfl, hl5, hh5⟩ := ty_int h5 rfl
    replace hl5 : ((-2147483648) : Int) ≤ bhi.toInt := hl5
    replace hh5 : bhi.toInt ≤ 2147483647 := hh5
    obtain ⟨bwo, rfl, hl6, hh6⟩ := ty_int h6 rfl
    replace hl6 : ((-2147483648) : Int) ≤ bwo.toInt := hl6
    replace hh6 : bwo.toInt ≤ 2147483647 := hh6
    refine ⟨rfl, ?_⟩
    obtain ⟨fs1, g2, -, q3⟩ := hx_obj hw hG0 (s := 30) rfl (by decide)
    obtain ⟨pk, e_pk, hG_pk⟩ := hx_fr (k := 2) (s := 32) q3 rfl
    obtain ⟨f, g_f, r_f⟩ := hx_row hw hG_pk (s := 32) (kd := 0) (n := 5721) rfl (by decide)
    have hKP := hf.1.1 _ _ hG_pk g_f
    have k113 := (hKP.1 113 (by decide)).2.2.2.2.2.2.2.1 rfl
    have k1123 := hKP.2.2.1
    have hp0 := hP o hd p ov blo bhi bwo rfl
    have ct164 : ∀ (nq : Nat) (w4 : ab_W) (td : Int64) (u9 : Option Int32) (u10 : Option Int64) (u12 : Option Int32) (u13 : Option Int32) (gq : Int32) (e : Int32) (io : Int32) (nn : Nat) (mq : Nat), ty_w sp_ G w4 → (F9 G F) w4 → ty_same G fz w w4 → (hx_has w4 o 9 22 (.int gq)) → (hx_has w4 o 9 2 (.ref pk)) → (hx_has w4 o 9 23 (.int e)) → (hx_has w4 o 9 25 (.int io)) → (w4[pk]? = some (.inl (0, 5721, .inl f))) → (glaw (cf f) e.toInt.toNat nn mq (gq.toInt.toNat)) → (io.toInt = 0) → (0 ≤ e.toInt) → (e.toInt ≤ 2800) → (0 ≤ gq.toInt) → (gq.toInt ≤ e.toInt + 1) → (blo.toInt ≤ td.toInt) → (td.toInt ≤ bhi.toInt) → ((mq : Int)).toNat < nq → ab_wp ro (ab_Ev ro ab_codes (d + 61)) 9 false (some .int) ab_k_X9_tells (fun o_1 => ∃ v w1, o_1 = (v, w1, 0, 0) ∧ ty_w sp_ G w1 ∧ (F9 G F) w1 ∧ ty_same G fz w w1 ∧ ck_res G (some (0, (-2147483648), 2147483647)) v ∧ (fun as _ v _ => ∀ (o : Nat) (hd p ov lo hi wo z : Int32), as = [.ref o, .int hd, .int p, .int ov, .int lo, .int hi, .int wo] → v = some (.int z) → lo.toInt ≤ z.toInt ∧ z.toInt ≤ hi.toInt) ([.ref o, .int hd, .int p, .int ov, .int blo, .int bhi, .int bwo] : List Value) w v w1) (164, [some (.ref o), some (.int hd), some (.int p), some (.int ov), some (.int blo), some (.int bhi), some (.int bwo), some (.long td), none, (u9.map Value.int), (u10.map Value.long), none, (u12.map Value.int), (u13.map Value.int)], [], w4, 0, 0) := by
      intro nq
      induction nq with
      | zero => intro w4 td u9 u10 u12 u13 gq e io nn mq hw17 hf18 hs19 hh5 hh6 hh7 hh8 g9 hgq i10 i11 i12 i13 i14 i15 i16 hm; exact absurd hm (Nat.not_lt_zero _)
      | succ nq ih164 =>
        intro w4 td u9 u10 u12 u13 gq e io nn mq hw17 hf18 hs19 hh5 hh6 hh7 hh8 g9 hgq i10 i11 i12 i13 i14 i15 i16 hm164
        obtain ⟨fs20, g21, e22⟩ := hh5
        have q23 := hx_oq hw17 g21 hG0 (s := 30) rfl
        obtain ⟨x24, e25, a26, b27⟩ := hx_fi (k := 22) (lo := (-2147483648)) (hi := 2147483647) q23 rfl
        obtain rfl : gq = x24 := hx_inji e22 e25
        obtain ⟨fs28, g29, e30⟩ := hh6
        obtain rfl : fs20 = fs28 := hx_inj g21 g29
        obtain ⟨fs31, g32, e33⟩ := hh7
        obtain rfl : fs20 = fs31 := hx_inj g21 g32
        obtain ⟨x34, e35, a36, b37⟩ := hx_fi (k := 23) (lo := (-2147483648)) (hi := 2147483647) q23 rfl
        obtain rfl : e = x34 := hx_inji e33 e35
        obtain ⟨fs38, g39, e40⟩ := hh8
        obtain rfl : fs20 = fs38 := hx_inj g21 g39
        obtain ⟨x41, e42, a43, b44⟩ := hx_fi (k := 25) (lo := 0) (hi := 1) q23 rfl
        obtain rfl : io = x41 := hx_inji e40 e42
        have hio : decide (io.toInt ≠ 0) = false := decide_eq_false (fun y => y (by omega))
        have ct308 : ∀ (w45 : ab_W) (td8 : Int64) (zd9 : Option Int32) (zd10 : Option Int64) (zd12 : Option Int32) (zd13 : Option Int32) (g8 : Int32) (m8 : Nat) (q8 : Nat), ty_w sp_ G w45 → (F9 G F) w45 → ty_same G fz w w45 → (hx_has w45 o 9 22 (.int g8)) → (hx_has w45 o 9 2 (.ref pk)) → (hx_has w45 o 9 23 (.int e)) → (hx_has w45 o 9 25 (.int io)) → (w45[pk]? = some (.inl (0, 5721, .inl f))) → (glaw (cf f) e.toInt.toNat nn m8 (q8 + 1)) → (g8.toInt = (q8 : Int)) → (q8 ≤ e.toInt.toNat) → (m8 < mq) → (blo.toInt ≤ td8.toInt) → (td8.toInt ≤ bhi.toInt) → ab_wp ro (ab_Ev ro ab_codes (d + 61)) 9 false (some .int) ab_k_X9_tells (fun o_1 => ∃ v w1, o_1 = (v, w1, 0, 0) ∧ ty_w sp_ G w1 ∧ (F9 G F) w1 ∧ ty_same G fz w w1 ∧ ck_res G (some (0, (-2147483648), 2147483647)) v ∧ (fun as _ v _ => ∀ (o : Nat) (hd p ov lo hi wo z : Int32), as = [.ref o, .int hd, .int p, .int ov, .int lo, .int hi, .int wo] → v = some (.int z) → lo.toInt ≤ z.toInt ∧ z.toInt ≤ hi.toInt) ([.ref o, .int hd, .int p, .int ov, .int blo, .int bhi, .int bwo] : List Value) w v w1) (308, [some (.ref o), some (.int hd), some (.int p), some (.int ov), some (.int blo), some (.int bhi), some (.int bwo), some (.long td8), none, (zd9.map Value.int), (zd10.map Value.long), none, (zd12.map Value.int), (zd13.map Value.int)], [], w45, 0, 0) := by
          intro w45 td8 zd9 zd10 zd12 zd13 g8 m8 q8 hw56 hf57 hs58 hh46 hh47 hh48 hh49 g50 hgl8 i51 i52 i53 i54 i55
          obtain ⟨fs59, g60, e61⟩ := hh46
          have q62 := hx_oq hw56 g60 hG0 (s := 30) rfl
          obtain ⟨x63, e64, a65, b66⟩ := hx_fi (k := 22) (lo := (-2147483648)) (hi := 2147483647) q62 rfl
          obtain rfl : g8 = x63 := hx_inji e61 e64
          obtain ⟨fs67, g68, e69⟩ := hh47
          obtain rfl : fs59 = fs67 := hx_inj g60 g68
          obtain ⟨fs70, g71, e72⟩ := hh48
          obtain rfl : fs59 = fs70 := hx_inj g60 g71
          obtain ⟨fs73, g74, e75⟩ := hh49
          obtain rfl : fs59 = fs73 := hx_inj g60 g74
          refine ax_go 2 (y := (310, [some (.ref o), some (.int hd), some (.int p), some (.int ov), some (.int blo), some (.int bhi), some (.int bwo), some (.long td8), none, (zd9.map Value.int), (zd10.map Value.long), none, (zd12.map Value.int), (zd13.map Value.int)], [.ref o, .ref o], w45, 0, 0)) rfl trivial ?_
          refine hx_gf (l := 313) rfl rfl rfl g60 e61 ?_
          refine hx_k (l := 314) (m := 1) rfl rfl (by decide) (fun z76 h77 => ?_)
          refine hx_add (l := 315) rfl rfl (fun z78 h79 => ?_)
          replace h79 := h79 (by omega) (by omega)
          refine hx_pf (q := (0, 0, 0, 0, (-2147483648), 2147483647)) (s := 30) (l := 318) (v := .int z78) rfl rfl rfl (by decide) rfl rfl rfl hw56 hG0 g60 trivial (ck_top_ok (G := G) z78) (fun w80 fs81 g82 e83 o84 n85 hw86 n87 => ?_)
          have hs88 := ty_same_tr hs58 (n87 fz (hx_ok hfz (by decide)))
          have hf89 := hFF _ _ (n87 pr_ (by decide)) hf57
          refine ax_go 1 (y := (164, [some (.ref o), some (.int hd), some (.int p), some (.int ov), some (.int blo), some (.int bhi), some (.int bwo), some (.long td8), none, (zd9.map Value.int), (zd10.map Value.long), none, (zd12.map Value.int), (zd13.map Value.int)], [], w80, 0, 0)) rfl trivial ?_
          exact ih164 w80 td8 zd9 zd10 zd12 zd13 z78 e io nn m8 hw86 hf89 hs88 ⟨_, g82, e83⟩ ⟨_, g82, ((o84 2 (by decide)).trans e69)⟩ ⟨_, g82, ((o84 23 (by decide)).trans e72)⟩ ⟨_, g82, ((o84 25 (by decide)).trans e75)⟩ ((n85 _ (hx_ne hG_pk hG0 (by decide))).trans g50) (by rw [show z78.toInt.toNat = q8 + 1 by omega]; exact hgl8) (by omega) (by omega) (by omega) (by omega) (by omega) (by omega) (by omega) (by omega)
        have ct251 : ∀ (w90 : ab_W) (td6 : Int64) (is6 : Int32) (s6 : Int64) (sb6 : Int32) (ho6 : Int32) (g6 : Int32) (m6 : Nat) (q6 : Nat), ty_w sp_ G w90 → (F9 G F) w90 → ty_same G fz w w90 → (hx_has w90 o 9 22 (.int g6)) → (hx_has w90 o 9 2 (.ref pk)) → (hx_has w90 o 9 23 (.int e)) → (hx_has w90 o 9 25 (.int io)) → (w90[pk]? = some (.inl (0, 5721, .inl f))) → (glaw (cf f) e.toInt.toNat nn m6 (q6 + 1)) → (g6.toInt = (q6 : Int)) → (q6 ≤ e.toInt.toNat) → (m6 < mq) → (blo.toInt ≤ td6.toInt) → (td6.toInt ≤ bhi.toInt) → ab_wp ro (ab_Ev ro ab_codes (d + 61)) 9 false (some .int) ab_k_X9_tells (fun o_1 => ∃ v w1, o_1 = (v, w1, 0, 0) ∧ ty_w sp_ G w1 ∧ (F9 G F) w1 ∧ ty_same G fz w w1 ∧ ck_res G (some (0, (-2147483648), 2147483647)) v ∧ (fun as _ v _ => ∀ (o : Nat) (hd p ov lo hi wo z : Int32), as = [.ref o, .int hd, .int p, .int ov, .int lo, .int hi, .int wo] → v = some (.int z) → lo.toInt ≤ z.toInt ∧ z.toInt ≤ hi.toInt) ([.ref o, .int hd, .int p, .int ov, .int blo, .int bhi, .int bwo] : List Value) w v w1) (251, [some (.ref o), some (.int hd), some (.int p), some (.int ov), some (.int blo), some (.int bhi), some (.int bwo), some (.long td6), none, some (.int is6), some (.long s6), none, some (.int sb6), some (.int ho6)], [], w90, 0, 0) := by
          intro w90 td6 is6 s6 sb6 ho6 g6 m6 q6 hw101 hf102 hs103 hh91 hh92 hh93 hh94 g95 hgl6 i96 i97 i98 i99 i100
          obtain ⟨fs104, g105, e106⟩ := hh91
          have q107 := hx_oq hw101 g105 hG0 (s := 30) rfl
          obtain ⟨x108, e109, a110, b111⟩ := hx_fi (k := 22) (lo := (-2147483648)) (hi := 2147483647) q107 rfl
          obtain rfl : g6 = x108 := hx_inji e106 e109
          obtain ⟨fs112, g113, e114⟩ := hh92
          obtain rfl : fs104 = fs112 := hx_inj g105 g113
          obtain ⟨fs115, g116, e117⟩ := hh93
          obtain rfl : fs104 = fs115 := hx_inj g105 g116
          obtain ⟨fs118, g119, e120⟩ := hh94
          obtain rfl : fs104 = fs118 := hx_inj g105 g119
          refine ax_go 2 (y := (254, [some (.ref o), some (.int hd), some (.int p), some (.int ov), some (.int blo), some (.int bhi), some (.int bwo), some (.long td6), none, some (.int is6), some (.long s6), none, some (.int sb6), some (.int ho6)], [.int hd, .int is6], w90, 0, 0)) rfl trivial ?_
          refine hx_ic_ne (l := 257) rfl rfl (fun h121 => ?_) (fun h121 => ?_)
          · -- 308
            exact ct308 w90 td6 (some is6) (some s6) (some sb6) (some ho6) g6 m6 q6 hw101 hf102 hs103 ⟨_, g105, e106⟩ ⟨_, g105, e114⟩ ⟨_, g105, e117⟩ ⟨_, g105, e120⟩ g95 hgl6 (by omega) (by omega) (by omega) (by omega) (by omega)
          · -- 257
            refine ax_go 1 (y := (259, [some (.ref o), some (.int hd), some (.int p), some (.int ov), some (.int blo), some (.int bhi), some (.int bwo), some (.long td6), none, some (.int is6), some (.long s6), none, some (.int sb6), some (.int ho6)], [.int ho6], w90, 0, 0)) rfl trivial ?_
            refine hx_if_eq (l := 262) rfl rfl (fun h122 => ?_) (fun h122 => ?_)
            · -- 308
              exact ct308 w90 td6 (some is6) (some s6) (some sb6) (some ho6) g6 m6 q6 hw101 hf102 hs103 ⟨_, g105, e106⟩ ⟨_, g105, e114⟩ ⟨_, g105, e117⟩ ⟨_, g105, e120⟩ g95 hgl6 (by omega) (by omega) (by omega) (by omega) (by omega)
            · -- 262
              refine ax_go 1 (y := (263, [some (.ref o), some (.int hd), some (.int p), some (.int ov), some (.int blo), some (.int bhi), some (.int bwo), some (.long td6), none, some (.int is6), some (.long s6), none, some (.int sb6), some (.int ho6)], [.ref o], w90, 0, 0)) rfl trivial ?_
              obtain ⟨x123, e124, a125, b126⟩ := hx_fi (k := 24) (lo := 0) (hi := 1) q107 rfl
              refine hx_gf (l := 266) rfl rfl rfl g105 e124 ?_
              refine hx_if_ne (l := 269) rfl rfl (fun h127 => ?_) (fun h127 => ?_)
              · -- 308
                exact ct308 w90 td6 (some is6) (some s6) (some sb6) (some ho6) g6 m6 q6 hw101 hf102 hs103 ⟨_, g105, e106⟩ ⟨_, g105, e114⟩ ⟨_, g105, e117⟩ ⟨_, g105, e120⟩ g95 hgl6 (by omega) (by omega) (by omega) (by omega) (by omega)
              · -- 269
                refine ax_go 1 (y := (271, [some (.ref o), some (.int hd), some (.int p), some (.int ov), some (.int blo), some (.int bhi), some (.int bwo), some (.long td6), none, some (.int is6), some (.long s6), none, some (.int sb6), some (.int ho6)], [.int sb6], w90, 0, 0)) rfl trivial ?_
                refine hx_if_ne (l := 274) rfl rfl (fun h128 => ?_) (fun h128 => ?_)
                · -- 308
                  exact ct308 w90 td6 (some is6) (some s6) (some sb6) (some ho6) g6 m6 q6 hw101 hf102 hs103 ⟨_, g105, e106⟩ ⟨_, g105, e114⟩ ⟨_, g105, e117⟩ ⟨_, g105, e120⟩ g95 hgl6 (by omega) (by omega) (by omega) (by omega) (by omega)
                · -- 274
                  refine ax_go 2 (y := (278, [some (.ref o), some (.int hd), some (.int p), some (.int ov), some (.int blo), some (.int bhi), some (.int bwo), some (.long td6), none, some (.int is6), some (.long s6), none, some (.int sb6), some (.int ho6)], [.int blo, .long s6], w90, 0, 0)) rfl trivial ?_
                  refine hx_i2l (l := 279) rfl rfl (fun z129 h130 => ?_)
                  refine hx_lcmp (l := 280) rfl rfl (fun z131 h132 => ?_)
                  refine hx_if_ge (l := 283) rfl rfl (fun h133 => ?_) (fun h133 => ?_)
                  · -- 289
                    refine ax_go 2 (y := (293, [some (.ref o), some (.int hd), some (.int p), some (.int ov), some (.int blo), some (.int bhi), some (.int bwo), some (.long td6), none, some (.int is6), some (.long s6), none, some (.int sb6), some (.int ho6)], [.int bhi, .long s6], w90, 0, 0)) rfl trivial ?_
                    refine hx_i2l (l := 294) rfl rfl (fun z134 h135 => ?_)
                    refine hx_lcmp (l := 295) rfl rfl (fun z136 h137 => ?_)
                    refine hx_if_le (l := 298) rfl rfl (fun h138 => ?_) (fun h138 => ?_)
                    · -- 304
                      refine ax_go 2 (y := (308, [some (.ref o), some (.int hd), some (.int p), some (.int ov), some (.int blo), some (.int bhi), some (.int bwo), some (.long s6), none, some (.int is6), some (.long s6), none, some (.int sb6), some (.int ho6)], [], w90, 0, 0)) rfl trivial ?_
                      exact ct308 w90 s6 (some is6) (some s6) (some sb6) (some ho6) g6 m6 q6 hw101 hf102 hs103 ⟨_, g105, e106⟩ ⟨_, g105, e114⟩ ⟨_, g105, e117⟩ ⟨_, g105, e120⟩ g95 hgl6 (by omega) (by omega) (by omega) (by omega) (by omega)
                    · -- 298
                      refine ax_go 1 (y := (300, [some (.ref o), some (.int hd), some (.int p), some (.int ov), some (.int blo), some (.int bhi), some (.int bwo), some (.long td6), none, some (.int is6), some (.long s6), none, some (.int sb6), some (.int ho6)], [.int bhi], w90, 0, 0)) rfl trivial ?_
                      refine hx_i2l (l := 301) rfl rfl (fun z139 h140 => ?_)
                      refine ax_go 2 (y := (308, [some (.ref o), some (.int hd), some (.int p), some (.int ov), some (.int blo), some (.int bhi), some (.int bwo), some (.long z139), none, some (.int is6), some (.long s6), none, some (.int sb6), some (.int ho6)], [], w90, 0, 0)) rfl trivial ?_
                      exact ct308 w90 z139 (some is6) (some s6) (some sb6) (some ho6) g6 m6 q6 hw101 hf102 hs103 ⟨_, g105, e106⟩ ⟨_, g105, e114⟩ ⟨_, g105, e117⟩ ⟨_, g105, e120⟩ g95 hgl6 (by omega) (by omega) (by omega) (by omega) (by omega)
                  · -- 283
                    refine ax_go 1 (y := (285, [some (.ref o), some (.int hd), some (.int p), some (.int ov), some (.int blo), some (.int bhi), some (.int bwo), some (.long td6), none, some (.int is6), some (.long s6), none, some (.int sb6), some (.int ho6)], [.int blo], w90, 0, 0)) rfl trivial ?_
                    refine hx_i2l (l := 286) rfl rfl (fun z141 h142 => ?_)
                    refine ax_go 2 (y := (308, [some (.ref o), some (.int hd), some (.int p), some (.int ov), some (.int blo), some (.int bhi), some (.int bwo), some (.long z141), none, some (.int is6), some (.long s6), none, some (.int sb6), some (.int ho6)], [], w90, 0, 0)) rfl trivial ?_
                    exact ct308 w90 z141 (some is6) (some s6) (some sb6) (some ho6) g6 m6 q6 hw101 hf102 hs103 ⟨_, g105, e106⟩ ⟨_, g105, e114⟩ ⟨_, g105, e117⟩ ⟨_, g105, e120⟩ g95 hgl6 (by omega) (by omega) (by omega) (by omega) (by omega)
        have ct215 : ∀ (w143 : ab_W) (td5 : Int64) (is5 : Int32) (v10 : Option Int64) (v12 : Option Int32) (v13 : Option Int32) (s5 : Int64) (g5 : Int32) (m5 : Nat) (y5 : Nat) (q5 : Nat), ty_w sp_ G w143 → (F9 G F) w143 → ty_same G fz w w143 → (hx_has w143 o 9 22 (.int g5)) → (hx_has w143 o 9 2 (.ref pk)) → (hx_has w143 o 9 23 (.int e)) → (hx_has w143 o 9 25 (.int io)) → (w143[pk]? = some (.inl (0, 5721, .inl f))) → (glaw (cf f) e.toInt.toNat nn m5 (q5 + 1)) → ((gc (cf f) e.toInt.toNat y5 = 5 ∧ gr (cf f) e.toInt.toNat false nn 8 9 (y5 + 1) = some q5) ∨ (¬ gc (cf f) e.toInt.toNat y5 = 5 ∧ q5 = y5)) → (g5.toInt = (y5 : Int)) → (y5 ≤ e.toInt.toNat) → (m5 < mq) → (blo.toInt ≤ td5.toInt) → (td5.toInt ≤ bhi.toInt) → ab_wp ro (ab_Ev ro ab_codes (d + 61)) 9 false (some .int) ab_k_X9_tells (fun o_1 => ∃ v w1, o_1 = (v, w1, 0, 0) ∧ ty_w sp_ G w1 ∧ (F9 G F) w1 ∧ ty_same G fz w w1 ∧ ck_res G (some (0, (-2147483648), 2147483647)) v ∧ (fun as _ v _ => ∀ (o : Nat) (hd p ov lo hi wo z : Int32), as = [.ref o, .int hd, .int p, .int ov, .int lo, .int hi, .int wo] → v = some (.int z) → lo.toInt ≤ z.toInt ∧ z.toInt ≤ hi.toInt) ([.ref o, .int hd, .int p, .int ov, .int blo, .int bhi, .int bwo] : List Value) w v w1) (215, [some (.ref o), some (.int hd), some (.int p), some (.int ov), some (.int blo), some (.int bhi), some (.int bwo), some (.long td5), none, some (.int is5), (v10.map Value.long), none, (v12.map Value.int), (v13.map Value.int)], [.long s5], w143, 0, 0) := by
          intro w143 td5 is5 v10 v12 v13 s5 g5 m5 y5 q5 hw154 hf155 hs156 hh144 hh145 hh146 hh147 g148 hgl5 hc5 i149 i150 i151 i152 i153
          obtain ⟨fs157, g158, e159⟩ := hh144
          have q160 := hx_oq hw154 g158 hG0 (s := 30) rfl
          obtain ⟨x161, e162, a163, b164⟩ := hx_fi (k := 22) (lo := (-2147483648)) (hi := 2147483647) q160 rfl
          obtain rfl : g5 = x161 := hx_inji e159 e162
          obtain ⟨fs165, g166, e167⟩ := hh145
          obtain rfl : fs157 = fs165 := hx_inj g158 g166
          obtain ⟨fs168, g169, e170⟩ := hh146
          obtain rfl : fs157 = fs168 := hx_inj g158 g169
          obtain ⟨fs171, g172, e173⟩ := hh147
          obtain rfl : fs157 = fs171 := hx_inj g158 g172
          refine ax_go 2 (y := (218, [some (.ref o), some (.int hd), some (.int p), some (.int ov), some (.int blo), some (.int bhi), some (.int bwo), some (.long td5), none, some (.int is5), some (.long s5), none, (v12.map Value.int), (v13.map Value.int)], [.ref o], w143, 0, 0)) rfl trivial ?_
          obtain ⟨x174, e175, a176, b177⟩ := hx_fi (k := 24) (lo := 0) (hi := 1) q160 rfl
          refine hx_gf (l := 221) rfl rfl rfl g158 e175 ?_
          refine ax_go 2 (y := (224, [some (.ref o), some (.int hd), some (.int p), some (.int ov), some (.int blo), some (.int bhi), some (.int bwo), some (.long td5), none, some (.int is5), some (.long s5), none, some (.int x174), (v13.map Value.int)], [.ref o], w143, 0, 0)) rfl trivial ?_
          refine hx_k (l := 225) (m := 0) rfl rfl (by decide) (fun z178 h179 => ?_)
          refine hx_pf (q := (0, 0, 0, 0, 0, 1)) (s := 30) (l := 228) (v := .int z178) rfl rfl rfl (by decide) rfl rfl rfl hw154 hG0 g158 ⟨hx_01 (by omega) (by omega), trivial⟩ (hx_ti (G := G) (lo := 0) (hi := 1) (by omega) (by omega)) (fun w180 fs181 g182 e183 o184 n185 hw186 n187 => ?_)
          have hs188 := ty_same_tr hs156 (n187 fz (hx_ok hfz (by decide)))
          have hf189 := hFF _ _ (n187 pr_ (by decide)) hf155
          refine ax_go 1 (y := (229, [some (.ref o), some (.int hd), some (.int p), some (.int ov), some (.int blo), some (.int bhi), some (.int bwo), some (.long td5), none, some (.int is5), some (.long s5), none, some (.int x174), (v13.map Value.int)], [.ref o], w180, 0, 0)) rfl trivial ?_
          refine hx_k (l := 230) (m := 5) rfl rfl (by decide) (fun z190 h191 => ?_)
          refine hx_pi (l := 233) (as := [.ref o, .int z190]) rfl rfl (hx_iv (j := 173) (n := 1) (o := o) (r := []) rfl rfl g182 rfl) (hp_X9_passes0 (fz := fz) hF (pk := pk) (f := f) (g := g5) (e := e) (io := io) ⟨by omega, by omega⟩ ⟨by omega, by omega⟩ (fun q hq => (by decide +kernel : ∀ q ∈ fb_hp_X9_tells, q ∈ fb_hp_X9_passes0) q (hfz q hq)) (d + 59)) hw186 hf189 ⟨(hx_tr (G := G) (s := 30) (b := 0) hG0 (by decide)), (ck_top_ok (G := G) z190), trivial⟩ (fun o1 l1 h1 => by cases h1; exact ⟨_, g182, ((o184 2 (by decide)).trans e167), ((o184 22 (by decide)).trans e159), ((o184 23 (by decide)).trans e170), ((o184 25 (by decide)).trans e173), ((n185 _ (hx_ne hG_pk hG0 (by decide))).trans g148)⟩) (fun w192 z197 hw193 hf194 m195 a198 b199 u200 => ?_)
          have hs196 := ty_same_tr hs188 m195
          obtain ⟨gN201, ⟨fsN202, gA203, iA204, iB205, iC206, iD207, gK208⟩, hC209⟩ := u200 _ _ _ rfl rfl
          refine hx_if_eq (l := 236) rfl rfl (fun h210 => ?_) (fun h210 => ?_)
          · -- 244
            have yy5 : y5 = g5.toInt.toNat := by omega
            have hz5 := (hc5.resolve_left (fun zz => absurd zz.1 (by rw [yy5]; omega))).2
            refine hx_k (l := 245) (m := 1) rfl rfl (by decide) (fun z211 h212 => ?_)
            refine ax_go 2 (y := (251, [some (.ref o), some (.int hd), some (.int p), some (.int ov), some (.int blo), some (.int bhi), some (.int bwo), some (.long td5), none, some (.int is5), some (.long s5), none, some (.int x174), some (.int z211)], [], w192, 0, 0)) rfl trivial ?_
            exact ct251 w192 td5 is5 s5 x174 z211 gN201 m5 q5 hw193 hf194 hs196 ⟨_, gA203, iB205⟩ ⟨_, gA203, iA204⟩ ⟨_, gA203, iC206⟩ ⟨_, gA203, iD207⟩ gK208 hgl5 (by omega) (by omega) (by omega) (by omega) (by omega)
          · -- 236
            have yy5 : y5 = g5.toInt.toNat := by omega
            have hz5 := (hc5.resolve_right (fun zz => zz.1 (by rw [yy5]; omega))).2
            have lt5 := gc_lt (c := cf f) (e := e.toInt.toNat) (p := y5) (by rw [yy5]; omega)
            refine ax_go 1 (y := (237, [some (.ref o), some (.int hd), some (.int p), some (.int ov), some (.int blo), some (.int bhi), some (.int bwo), some (.long td5), none, some (.int is5), some (.long s5), none, some (.int x174), (v13.map Value.int)], [.ref o], w192, 0, 0)) rfl trivial ?_
            refine hx_k (l := 238) (m := 1) rfl rfl (by decide) (fun z213 h214 => ?_)
            refine hx_pi (l := 241) (as := [.ref o, .int z213]) rfl rfl (hx_iv (j := 179) (n := 1) (o := o) (r := []) rfl rfl gA203 rfl) ((ev_all (fz := fz) hF (fun q hq => (by decide +kernel : ∀ q ∈ fb_hp_X9_tells, q ∈ fb_ev) q (hfz q hq)) nn).2.2.2.2.2.2 8 pk f e io gN201 q5 (d + 61) ⟨by omega, by omega⟩ ⟨by omega, by omega⟩ (by rw [hio, show gN201.toInt.toNat = y5 + 1 by omega]; exact hz5) (by omega)) hw193 hf194 ⟨(hx_tr (G := G) (s := 30) (b := 0) hG0 (by decide)), (hx_ti (G := G) (lo := 0) (hi := 1) (by omega) (by omega)), trivial⟩ (fun o1 l1 h1 => by cases h1; exact ⟨_, gA203, iA204, iB205, iC206, iD207, gK208⟩) (fun w215 z220 hw216 hf217 m218 a221 b222 u223 => ?_)
            have hs219 := ty_same_tr hs196 m218
            obtain ⟨gN224, hN225, fsN226, gA227, iA228, iB229, iC230, iD231, gK232⟩ := u223 _ _ rfl
            have le233 := gr_le hz5 (by omega)
            refine hx_if_eq (l := 244) rfl rfl (fun h234 => ?_) (fun h234 => ?_)
            · -- 248
              refine hx_k (l := 249) (m := 0) rfl rfl (by decide) (fun z235 h236 => ?_)
              refine ax_go 1 (y := (251, [some (.ref o), some (.int hd), some (.int p), some (.int ov), some (.int blo), some (.int bhi), some (.int bwo), some (.long td5), none, some (.int is5), some (.long s5), none, some (.int x174), some (.int z235)], [], w215, 0, 0)) rfl trivial ?_
              exact ct251 w215 td5 is5 s5 x174 z235 gN224 m5 q5 hw216 hf217 hs219 ⟨_, gA227, iB229⟩ ⟨_, gA227, iA228⟩ ⟨_, gA227, iC230⟩ ⟨_, gA227, iD231⟩ gK232 hgl5 (by omega) (by omega) (by omega) (by omega) (by omega)
            · -- 244
              refine hx_k (l := 245) (m := 1) rfl rfl (by decide) (fun z237 h238 => ?_)
              refine ax_go 2 (y := (251, [some (.ref o), some (.int hd), some (.int p), some (.int ov), some (.int blo), some (.int bhi), some (.int bwo), some (.long td5), none, some (.int is5), some (.long s5), none, some (.int x174), some (.int z237)], [], w215, 0, 0)) rfl trivial ?_
              exact ct251 w215 td5 is5 s5 x174 z237 gN224 m5 q5 hw216 hf217 hs219 ⟨_, gA227, iB229⟩ ⟨_, gA227, iA228⟩ ⟨_, gA227, iC230⟩ ⟨_, gA227, iD231⟩ gK232 hgl5 (by omega) (by omega) (by omega) (by omega) (by omega)
        refine ax_go 1 (y := (165, [some (.ref o), some (.int hd), some (.int p), some (.int ov), some (.int blo), some (.int bhi), some (.int bwo), some (.long td), none, (u9.map Value.int), (u10.map Value.long), none, (u12.map Value.int), (u13.map Value.int)], [.ref o], w4, 0, 0)) rfl trivial ?_
        refine hx_gf (l := 168) rfl rfl rfl g21 e22 ?_
        refine ax_go 1 (y := (169, [some (.ref o), some (.int hd), some (.int p), some (.int ov), some (.int blo), some (.int bhi), some (.int bwo), some (.long td), none, (u9.map Value.int), (u10.map Value.long), none, (u12.map Value.int), (u13.map Value.int)], [.ref o, .int gq], w4, 0, 0)) rfl trivial ?_
        refine hx_gf (l := 172) rfl rfl rfl g21 e33 ?_
        refine hx_ic_ge (l := 175) rfl rfl (fun h239 => ?_) (fun h239 => ?_)
        · -- 321
          refine ax_go 1 (y := (323, [some (.ref o), some (.int hd), some (.int p), some (.int ov), some (.int blo), some (.int bhi), some (.int bwo), some (.long td), none, (u9.map Value.int), (u10.map Value.long), none, (u12.map Value.int), (u13.map Value.int)], [.long td], w4, 0, 0)) rfl trivial ?_
          refine hx_l2i (l := 324) rfl rfl (by omega) (by omega) (fun z240 h241 => ?_)
          exact ax_ret rfl rfl trivial ⟨some (.int z240), _, rfl, hw17, hf18, hs19, (ck_top_ok (G := G) z240), (fun o1 q1 q2 q3 q4 q5 q6 z1 h1 h2 => by cases h1; cases h2; exact ⟨by omega, by omega⟩)⟩
        · -- 175
          obtain ⟨m1, y1, q1, hm1, hgl1, hA1, hB1⟩ := gl_in hgq (by omega)
          refine ax_go 2 (y := (177, [some (.ref o), some (.int hd), some (.int p), some (.int ov), some (.int blo), some (.int bhi), some (.int bwo), some (.long td), none, (u9.map Value.int), (u10.map Value.long), none, (u12.map Value.int), (u13.map Value.int)], [.ref o, .ref o], w4, 0, 0)) rfl trivial ?_
          refine hx_gf (l := 180) rfl rfl rfl g21 e22 ?_
          refine hx_pi (l := 183) (as := [.ref o, .int gq]) rfl rfl (hx_iv (j := 172) (n := 1) (o := o) (r := []) rfl rfl g21 rfl) (hp_X9_codeAt (fz := fz) hF (fun q hq => (by decide +kernel : ∀ q ∈ fb_hp_X9_tells, q ∈ fb_hp_X9_codeAt) q (hfz q hq)) (d + 60)) hw17 hf18 ⟨(hx_tr (G := G) (s := 30) (b := 0) hG0 (by decide)), (ck_top_ok (G := G) gq), trivial⟩ (fun y0 y1 y2 h1 h2 => by cases h1; obtain ⟨fs1, g1, e1⟩ := h2; obtain rfl := hx_inj g21 g1; obtain rfl := hx_inji e33 e1; exact ⟨by omega, by omega⟩) (fun w242 z247 hw243 hf244 m245 a248 b249 u250 => ?_)
          rw [u250.1]
          have u251 := u250.2 _ _ _ _ _ _ rfl ⟨_, g21, e30⟩ g9 ⟨_, g21, e33⟩ rfl
          clear u250
          refine ax_go 2 (y := (186, [some (.ref o), some (.int hd), some (.int p), some (.int ov), some (.int blo), some (.int bhi), some (.int bwo), some (.long td), none, some (.int z247), (u10.map Value.long), none, (u12.map Value.int), (u13.map Value.int)], [.ref o], w4, 0, 0)) rfl trivial ?_
          refine hx_k (l := 187) (m := 0) rfl rfl (by decide) (fun z252 h253 => ?_)
          refine hx_pf (q := (0, 0, 0, 0, 0, 1)) (s := 30) (l := 190) (v := .int z252) rfl rfl rfl (by decide) rfl rfl rfl hw17 hG0 g21 ⟨hx_01 (by omega) (by omega), trivial⟩ (hx_ti (G := G) (lo := 0) (hi := 1) (by omega) (by omega)) (fun w254 fs255 g256 e257 o258 n259 hw260 n261 => ?_)
          have hs262 := ty_same_tr hs19 (n261 fz (hx_ok hfz (by decide)))
          have hf263 := hFF _ _ (n261 pr_ (by decide)) hf18
          refine ax_go 2 (y := (192, [some (.ref o), some (.int hd), some (.int p), some (.int ov), some (.int blo), some (.int bhi), some (.int bwo), some (.long td), none, some (.int z247), (u10.map Value.long), none, (u12.map Value.int), (u13.map Value.int)], [.ref o, .ref o], w254, 0, 0)) rfl trivial ?_
          refine hx_gf (l := 195) rfl rfl rfl g256 ((o258 22 (by decide)).trans e22) ?_
          refine hx_k (l := 196) (m := 1) rfl rfl (by decide) (fun z264 h265 => ?_)
          refine hx_add (l := 197) rfl rfl (fun z266 h267 => ?_)
          replace h267 := h267 (by omega) (by omega)
          refine hx_pf (q := (0, 0, 0, 0, (-2147483648), 2147483647)) (s := 30) (l := 200) (v := .int z266) rfl rfl rfl (by decide) rfl rfl rfl hw260 hG0 g256 trivial (ck_top_ok (G := G) z266) (fun w268 fs269 g270 e271 o272 n273 hw274 n275 => ?_)
          have hs276 := ty_same_tr hs262 (n275 fz (hx_ok hfz (by decide)))
          have hf277 := hFF _ _ (n275 pr_ (by decide)) hf263
          refine ax_go 1 (y := (202, [some (.ref o), some (.int hd), some (.int p), some (.int ov), some (.int blo), some (.int bhi), some (.int bwo), some (.long td), none, some (.int z247), (u10.map Value.long), none, (u12.map Value.int), (u13.map Value.int)], [.int z247], w268, 0, 0)) rfl trivial ?_
          refine hx_k (l := 203) (m := 4) rfl rfl (by decide) (fun z278 h279 => ?_)
          refine hx_ic_ne (l := 206) rfl rfl (fun h280 => ?_) (fun h280 => ?_)
          · -- 210
            have hy1 := (hA1.resolve_left (fun zz => absurd zz.1 (by omega))).2
            refine ax_go 1 (y := (211, [some (.ref o), some (.int hd), some (.int p), some (.int ov), some (.int blo), some (.int bhi), some (.int bwo), some (.long td), none, some (.int z247), (u10.map Value.long), none, (u12.map Value.int), (u13.map Value.int)], [.ref o], w268, 0, 0)) rfl trivial ?_
            refine hx_k (l := 212) (m := 1) rfl rfl (by decide) (fun z281 h282 => ?_)
            refine hx_pj (l := 215) (as := [.ref o, .int z281]) rfl rfl (hx_iv (j := 175) (n := 1) (o := o) (r := []) rfl rfl g270 rfl) ((ev_all (fz := fz) hF (fun q hq => (by decide +kernel : ∀ q ∈ fb_hp_X9_tells, q ∈ fb_ev) q (hfz q hq)) nn).2.2.1 8 pk f e io z266 y1 (d + 61) ⟨by omega, by omega⟩ ⟨by omega, by omega⟩ (by rw [hio, show z266.toInt.toNat = gq.toInt.toNat + 1 by omega]; exact hy1) (by omega)) hw274 hf277 ⟨(hx_tr (G := G) (s := 30) (b := 0) hG0 (by decide)), (hx_ti (G := G) (lo := 0) (hi := 1) (by omega) (by omega)), trivial⟩ (fun o1 l1 h1 => by cases h1; exact ⟨_, g270, ((o272 2 (by decide)).trans ((o258 2 (by decide)).trans e30)), e271, ((o272 23 (by decide)).trans ((o258 23 (by decide)).trans e33)), ((o272 25 (by decide)).trans ((o258 25 (by decide)).trans e40)), ((n273 _ (hx_ne hG_pk hG0 (by decide))).trans ((n259 _ (hx_ne hG_pk hG0 (by decide))).trans g9))⟩) (fun w283 z288 hw284 hf285 m286 a289 b290 u291 => ?_)
            have hs287 := ty_same_tr hs276 m286
            obtain ⟨gN292, hN293, fsN294, gA295, iA296, iB297, iC298, iD299, gK300⟩ := u291 _ _ rfl
            have le301 := gr_le hy1 (by omega)
            exact ct215 w283 td z247 u10 u12 u13 z288 gN292 m1 y1 q1 hw284 hf285 hs287 ⟨_, gA295, iB297⟩ ⟨_, gA295, iA296⟩ ⟨_, gA295, iC298⟩ ⟨_, gA295, iD299⟩ gK300 hgl1 hB1 (by omega) (by omega) (by omega) (by omega) (by omega)
          · -- 206
            have hy1 := (hA1.resolve_right (fun zz => zz.1 (by omega))).2
            refine hx_lk (l := 207) (m := 1) rfl rfl (by decide) (fun z302 h303 => ?_)
            refine ax_go 1 (y := (215, [some (.ref o), some (.int hd), some (.int p), some (.int ov), some (.int blo), some (.int bhi), some (.int bwo), some (.long td), none, some (.int z247), (u10.map Value.long), none, (u12.map Value.int), (u13.map Value.int)], [.long z302], w268, 0, 0)) rfl trivial ?_
            exact ct215 w268 td z247 u10 u12 u13 z302 z266 m1 y1 q1 hw274 hf277 hs276 ⟨_, g270, e271⟩ ⟨_, g270, ((o272 2 (by decide)).trans ((o258 2 (by decide)).trans e30))⟩ ⟨_, g270, ((o272 23 (by decide)).trans ((o258 23 (by decide)).trans e33))⟩ ⟨_, g270, ((o272 25 (by decide)).trans ((o258 25 (by decide)).trans e40))⟩ ((n273 _ (hx_ne hG_pk hG0 (by decide))).trans ((n259 _ (hx_ne hG_pk hG0 (by decide))).trans g9)) hgl1 hB1 (by omega) (by omega) (by omega) (by omega) (by omega)
    change ab_wp ro (ab_Ev ro ab_codes (d + 61)) 9 false (some .int) ab_k_X9_tells (fun o_1 => ∃ v w1, o_1 = (v, w1, 0, 0) ∧ ty_w sp_ G w1 ∧ (F9 G F) w1 ∧ ty_same G fz w w1 ∧ ck_res G (some (0, (-2147483648), 2147483647)) v ∧ (fun as _ v _ => ∀ (o : Nat) (hd p ov lo hi wo z : Int32), as = [.ref o, .int hd, .int p, .int ov, .int lo, .int hi, .int wo] → v = some (.int z) → lo.toInt ≤ z.toInt ∧ z.toInt ≤ hi.toInt) ([.ref o, .int hd, .int p, .int ov, .int blo, .int bhi, .int bwo] : List Value) w v w1) (0, [some (.ref o), some (.int hd), some (.int p), some (.int ov), some (.int blo), some (.int bhi), some (.int bwo), none, none, none, none, none, none, none], [], w, 0, 0)
    refine ax_go 1 (y := (1, [some (.ref o), some (.int hd), some (.int p), some (.int ov), some (.int blo), some (.int bhi), some (.int bwo), none, none, none, none, none, none, none], [.ref o], w, 0, 0)) rfl trivial ?_
    refine hx_gf (l := 4) rfl rfl rfl g2 e_pk ?_
    refine hx_k (l := 6) (m := 113) rfl rfl (by decide) (fun z304 h305 => ?_)
    refine hx_il (l := 7) rfl rfl g_f (by omega) (by omega) (fun z306 h307 => ?_)
    have b308 := ((hf.1.1 _ _ hG_pk g_f).1 z304.toInt.toNat (by omega)).2.2.2.2.2.2.2.1 (by omega)
    rw [← h307] at b308
    rw [show z304.toInt.toNat = 113 by omega] at h307
    replace h307 := congrArg Int32.toInt h307
    refine hx_k (l := 8) (m := (-1)) rfl rfl (by decide) (fun z309 h310 => ?_)
    refine hx_ic_ne (l := 11) rfl rfl (fun h311 => ?_) (fun h311 => ?_)
    · -- 14
      obtain ⟨n0, m0, hgl⟩ := hKP.2.2.2 (f 113).toInt.toNat (by omega)
      refine ax_go 1 (y := (15, [some (.ref o), some (.int hd), some (.int p), some (.int ov), some (.int blo), some (.int bhi), some (.int bwo), none, none, none, none, none, none, none], [.ref o], w, 0, 0)) rfl trivial ?_
      obtain ⟨p312, e313, hG314⟩ := hx_fr (k := 26) (s := 42) q3 rfl
      refine hx_gf (l := 18) rfl rfl rfl g2 e313 ?_
      refine hx_k (l := 19) (m := 0) rfl rfl (by decide) (fun z315 h316 => ?_)
      refine ax_go 1 (y := (20, [some (.ref o), some (.int hd), some (.int p), some (.int ov), some (.int blo), some (.int bhi), some (.int bwo), none, none, none, none, none, none, none], [.int p, .int z315, .ref p312], w, 0, 0)) rfl trivial ?_
      obtain ⟨f317, g318, r319⟩ := hx_row hw hG314 (s := 42) (kd := 0) (n := 8) rfl (by decide)
      refine hx_is (s := 42) (l := 21) rfl rfl rfl hw hG314 g318 (by omega) (by omega) hx_sg0 (fun w320 f321 g322 e323 o324 n325 hw326 n327 => ?_)
      have hs328 := ty_same_tr (ty_same_rf w) (n327 fz (hx_ok hfz (by decide)))
      have hf329 := hFF _ _ (n327 pr_ (by decide)) hf
      refine ax_go 1 (y := (22, [some (.ref o), some (.int hd), some (.int p), some (.int ov), some (.int blo), some (.int bhi), some (.int bwo), none, none, none, none, none, none, none], [.ref o], w320, 0, 0)) rfl trivial ?_
      refine hx_gf (l := 25) rfl rfl rfl ((n325 _ (hx_ne hG0 hG314 (by decide))).trans g2) e313 ?_
      refine hx_k (l := 26) (m := 1) rfl rfl (by decide) (fun z330 h331 => ?_)
      refine ax_go 1 (y := (27, [some (.ref o), some (.int hd), some (.int p), some (.int ov), some (.int blo), some (.int bhi), some (.int bwo), none, none, none, none, none, none, none], [.ref o, .int z330, .ref p312], w320, 0, 0)) rfl trivial ?_
      refine hx_gf (l := 30) rfl rfl rfl ((n325 _ (hx_ne hG0 hG314 (by decide))).trans g2) e_pk ?_
      refine hx_k (l := 32) (m := 71) rfl rfl (by decide) (fun z332 h333 => ?_)
      refine ax_go 1 (y := (33, [some (.ref o), some (.int hd), some (.int p), some (.int ov), some (.int blo), some (.int bhi), some (.int bwo), none, none, none, none, none, none, none], [.int p, .int z332, .ref pk, .int z330, .ref p312], w320, 0, 0)) rfl trivial ?_
      refine hx_add (l := 34) rfl rfl (fun z334 h335 => ?_)
      replace h335 := h335 (by omega) (by omega)
      refine hx_il (l := 35) rfl rfl ((n325 _ (hx_ne hG_pk hG314 (by decide))).trans g_f) (by omega) (by omega) (fun z336 h337 => ?_)
      refine hx_is (s := 42) (l := 36) rfl rfl rfl hw326 hG314 g322 (by omega) (by omega) hx_sg0 (fun w338 f339 g340 e341 o342 n343 hw344 n345 => ?_)
      have hs346 := ty_same_tr hs328 (n345 fz (hx_ok hfz (by decide)))
      have hf347 := hFF _ _ (n345 pr_ (by decide)) hf329
      refine ax_go 1 (y := (37, [some (.ref o), some (.int hd), some (.int p), some (.int ov), some (.int blo), some (.int bhi), some (.int bwo), none, none, none, none, none, none, none], [.ref o], w338, 0, 0)) rfl trivial ?_
      refine hx_gf (l := 40) rfl rfl rfl ((n343 _ (hx_ne hG0 hG314 (by decide))).trans ((n325 _ (hx_ne hG0 hG314 (by decide))).trans g2)) e313 ?_
      refine hx_k (l := 41) (m := 2) rfl rfl (by decide) (fun z348 h349 => ?_)
      refine ax_go 1 (y := (42, [some (.ref o), some (.int hd), some (.int p), some (.int ov), some (.int blo), some (.int bhi), some (.int bwo), none, none, none, none, none, none, none], [.ref o, .int z348, .ref p312], w338, 0, 0)) rfl trivial ?_
      refine hx_gf (l := 45) rfl rfl rfl ((n343 _ (hx_ne hG0 hG314 (by decide))).trans ((n325 _ (hx_ne hG0 hG314 (by decide))).trans g2)) e_pk ?_
      refine hx_k (l := 47) (m := 81) rfl rfl (by decide) (fun z350 h351 => ?_)
      refine ax_go 1 (y := (48, [some (.ref o), some (.int hd), some (.int p), some (.int ov), some (.int blo), some (.int bhi), some (.int bwo), none, none, none, none, none, none, none], [.int p, .int z350, .ref pk, .int z348, .ref p312], w338, 0, 0)) rfl trivial ?_
      refine hx_add (l := 49) rfl rfl (fun z352 h353 => ?_)
      replace h353 := h353 (by omega) (by omega)
      refine hx_il (l := 50) rfl rfl ((n343 _ (hx_ne hG_pk hG314 (by decide))).trans ((n325 _ (hx_ne hG_pk hG314 (by decide))).trans g_f)) (by omega) (by omega) (fun z354 h355 => ?_)
      refine hx_is (s := 42) (l := 51) rfl rfl rfl hw344 hG314 g340 (by omega) (by omega) hx_sg0 (fun w356 f357 g358 e359 o360 n361 hw362 n363 => ?_)
      have hs364 := ty_same_tr hs346 (n363 fz (hx_ok hfz (by decide)))
      have hf365 := hFF _ _ (n363 pr_ (by decide)) hf347
      refine ax_go 1 (y := (52, [some (.ref o), some (.int hd), some (.int p), some (.int ov), some (.int blo), some (.int bhi), some (.int bwo), none, none, none, none, none, none, none], [.ref o], w356, 0, 0)) rfl trivial ?_
      refine hx_gf (l := 55) rfl rfl rfl ((n361 _ (hx_ne hG0 hG314 (by decide))).trans ((n343 _ (hx_ne hG0 hG314 (by decide))).trans ((n325 _ (hx_ne hG0 hG314 (by decide))).trans g2))) e313 ?_
      refine hx_k (l := 56) (m := 3) rfl rfl (by decide) (fun z366 h367 => ?_)
      refine ax_go 1 (y := (57, [some (.ref o), some (.int hd), some (.int p), some (.int ov), some (.int blo), some (.int bhi), some (.int bwo), none, none, none, none, none, none, none], [.ref o, .int z366, .ref p312], w356, 0, 0)) rfl trivial ?_
      refine hx_gf (l := 60) rfl rfl rfl ((n361 _ (hx_ne hG0 hG314 (by decide))).trans ((n343 _ (hx_ne hG0 hG314 (by decide))).trans ((n325 _ (hx_ne hG0 hG314 (by decide))).trans g2))) e_pk ?_
      refine hx_k (l := 62) (m := 10) rfl rfl (by decide) (fun z368 h369 => ?_)
      refine ax_go 1 (y := (63, [some (.ref o), some (.int hd), some (.int p), some (.int ov), some (.int blo), some (.int bhi), some (.int bwo), none, none, none, none, none, none, none], [.int p, .int z368, .ref pk, .int z366, .ref p312], w356, 0, 0)) rfl trivial ?_
      refine hx_add (l := 64) rfl rfl (fun z370 h371 => ?_)
      replace h371 := h371 (by omega) (by omega)
      refine hx_il (l := 65) rfl rfl ((n361 _ (hx_ne hG_pk hG314 (by decide))).trans ((n343 _ (hx_ne hG_pk hG314 (by decide))).trans ((n325 _ (hx_ne hG_pk hG314 (by decide))).trans g_f))) (by omega) (by omega) (fun z372 h373 => ?_)
      refine hx_is (s := 42) (l := 66) rfl rfl rfl hw362 hG314 g358 (by omega) (by omega) hx_sg0 (fun w374 f375 g376 e377 o378 n379 hw380 n381 => ?_)
      have hs382 := ty_same_tr hs364 (n381 fz (hx_ok hfz (by decide)))
      have hf383 := hFF _ _ (n381 pr_ (by decide)) hf365
      refine ax_go 1 (y := (67, [some (.ref o), some (.int hd), some (.int p), some (.int ov), some (.int blo), some (.int bhi), some (.int bwo), none, none, none, none, none, none, none], [.ref o], w374, 0, 0)) rfl trivial ?_
      refine hx_gf (l := 70) rfl rfl rfl ((n379 _ (hx_ne hG0 hG314 (by decide))).trans ((n361 _ (hx_ne hG0 hG314 (by decide))).trans ((n343 _ (hx_ne hG0 hG314 (by decide))).trans ((n325 _ (hx_ne hG0 hG314 (by decide))).trans g2)))) e313 ?_
      refine hx_k (l := 71) (m := 4) rfl rfl (by decide) (fun z384 h385 => ?_)
      refine ax_go 1 (y := (72, [some (.ref o), some (.int hd), some (.int p), some (.int ov), some (.int blo), some (.int bhi), some (.int bwo), none, none, none, none, none, none, none], [.ref o, .int z384, .ref p312], w374, 0, 0)) rfl trivial ?_
      refine hx_gf (l := 75) rfl rfl rfl ((n379 _ (hx_ne hG0 hG314 (by decide))).trans ((n361 _ (hx_ne hG0 hG314 (by decide))).trans ((n343 _ (hx_ne hG0 hG314 (by decide))).trans ((n325 _ (hx_ne hG0 hG314 (by decide))).trans g2)))) e_pk ?_
      refine hx_k (l := 77) (m := 109) rfl rfl (by decide) (fun z386 h387 => ?_)
      refine hx_il (l := 78) rfl rfl ((n379 _ (hx_ne hG_pk hG314 (by decide))).trans ((n361 _ (hx_ne hG_pk hG314 (by decide))).trans ((n343 _ (hx_ne hG_pk hG314 (by decide))).trans ((n325 _ (hx_ne hG_pk hG314 (by decide))).trans g_f)))) (by omega) (by omega) (fun z388 h389 => ?_)
      refine hx_is (s := 42) (l := 79) rfl rfl rfl hw380 hG314 g376 (by omega) (by omega) hx_sg0 (fun w390 f391 g392 e393 o394 n395 hw396 n397 => ?_)
      have hs398 := ty_same_tr hs382 (n397 fz (hx_ok hfz (by decide)))
      have hf399 := hFF _ _ (n397 pr_ (by decide)) hf383
      refine ax_go 1 (y := (80, [some (.ref o), some (.int hd), some (.int p), some (.int ov), some (.int blo), some (.int bhi), some (.int bwo), none, none, none, none, none, none, none], [.ref o], w390, 0, 0)) rfl trivial ?_
      refine hx_gf (l := 83) rfl rfl rfl ((n395 _ (hx_ne hG0 hG314 (by decide))).trans ((n379 _ (hx_ne hG0 hG314 (by decide))).trans ((n361 _ (hx_ne hG0 hG314 (by decide))).trans ((n343 _ (hx_ne hG0 hG314 (by decide))).trans ((n325 _ (hx_ne hG0 hG314 (by decide))).trans g2))))) e313 ?_
      refine hx_k (l := 84) (m := 5) rfl rfl (by decide) (fun z400 h401 => ?_)
      refine ax_go 1 (y := (85, [some (.ref o), some (.int hd), some (.int p), some (.int ov), some (.int blo), some (.int bhi), some (.int bwo), none, none, none, none, none, none, none], [.ref o, .int z400, .ref p312], w390, 0, 0)) rfl trivial ?_
      refine hx_gf (l := 88) rfl rfl rfl ((n395 _ (hx_ne hG0 hG314 (by decide))).trans ((n379 _ (hx_ne hG0 hG314 (by decide))).trans ((n361 _ (hx_ne hG0 hG314 (by decide))).trans ((n343 _ (hx_ne hG0 hG314 (by decide))).trans ((n325 _ (hx_ne hG0 hG314 (by decide))).trans g2))))) e_pk ?_
      refine hx_k (l := 89) (m := 0) rfl rfl (by decide) (fun z402 h403 => ?_)
      refine ax_go 1 (y := (90, [some (.ref o), some (.int hd), some (.int p), some (.int ov), some (.int blo), some (.int bhi), some (.int bwo), none, none, none, none, none, none, none], [.int p, .int z402, .ref pk, .int z400, .ref p312], w390, 0, 0)) rfl trivial ?_
      refine hx_add (l := 91) rfl rfl (fun z404 h405 => ?_)
      replace h405 := h405 (by omega) (by omega)
      refine hx_il (l := 92) rfl rfl ((n395 _ (hx_ne hG_pk hG314 (by decide))).trans ((n379 _ (hx_ne hG_pk hG314 (by decide))).trans ((n361 _ (hx_ne hG_pk hG314 (by decide))).trans ((n343 _ (hx_ne hG_pk hG314 (by decide))).trans ((n325 _ (hx_ne hG_pk hG314 (by decide))).trans g_f))))) (by omega) (by omega) (fun z406 h407 => ?_)
      refine hx_is (s := 42) (l := 93) rfl rfl rfl hw396 hG314 g392 (by omega) (by omega) hx_sg0 (fun w408 f409 g410 e411 o412 n413 hw414 n415 => ?_)
      have hs416 := ty_same_tr hs398 (n415 fz (hx_ok hfz (by decide)))
      have hf417 := hFF _ _ (n415 pr_ (by decide)) hf399
      refine ax_go 1 (y := (94, [some (.ref o), some (.int hd), some (.int p), some (.int ov), some (.int blo), some (.int bhi), some (.int bwo), none, none, none, none, none, none, none], [.ref o], w408, 0, 0)) rfl trivial ?_
      refine hx_gf (l := 97) rfl rfl rfl ((n413 _ (hx_ne hG0 hG314 (by decide))).trans ((n395 _ (hx_ne hG0 hG314 (by decide))).trans ((n379 _ (hx_ne hG0 hG314 (by decide))).trans ((n361 _ (hx_ne hG0 hG314 (by decide))).trans ((n343 _ (hx_ne hG0 hG314 (by decide))).trans ((n325 _ (hx_ne hG0 hG314 (by decide))).trans g2)))))) e313 ?_
      refine hx_k (l := 99) (m := 6) rfl rfl (by decide) (fun z418 h419 => ?_)
      refine ax_go 1 (y := (100, [some (.ref o), some (.int hd), some (.int p), some (.int ov), some (.int blo), some (.int bhi), some (.int bwo), none, none, none, none, none, none, none], [.int ov, .int z418, .ref p312], w408, 0, 0)) rfl trivial ?_
      refine hx_is (s := 42) (l := 101) rfl rfl rfl hw414 hG314 g410 (by omega) (by omega) hx_sg0 (fun w420 f421 g422 e423 o424 n425 hw426 n427 => ?_)
      have hs428 := ty_same_tr hs416 (n427 fz (hx_ok hfz (by decide)))
      have hf429 := hFF _ _ (n427 pr_ (by decide)) hf417
      refine ax_go 1 (y := (102, [some (.ref o), some (.int hd), some (.int p), some (.int ov), some (.int blo), some (.int bhi), some (.int bwo), none, none, none, none, none, none, none], [.ref o], w420, 0, 0)) rfl trivial ?_
      refine hx_gf (l := 105) rfl rfl rfl ((n425 _ (hx_ne hG0 hG314 (by decide))).trans ((n413 _ (hx_ne hG0 hG314 (by decide))).trans ((n395 _ (hx_ne hG0 hG314 (by decide))).trans ((n379 _ (hx_ne hG0 hG314 (by decide))).trans ((n361 _ (hx_ne hG0 hG314 (by decide))).trans ((n343 _ (hx_ne hG0 hG314 (by decide))).trans ((n325 _ (hx_ne hG0 hG314 (by decide))).trans g2))))))) e313 ?_
      refine hx_k (l := 107) (m := 7) rfl rfl (by decide) (fun z430 h431 => ?_)
      refine ax_go 1 (y := (108, [some (.ref o), some (.int hd), some (.int p), some (.int ov), some (.int blo), some (.int bhi), some (.int bwo), none, none, none, none, none, none, none], [.ref o, .int z430, .ref p312], w420, 0, 0)) rfl trivial ?_
      refine hx_gf (l := 111) rfl rfl rfl ((n425 _ (hx_ne hG0 hG314 (by decide))).trans ((n413 _ (hx_ne hG0 hG314 (by decide))).trans ((n395 _ (hx_ne hG0 hG314 (by decide))).trans ((n379 _ (hx_ne hG0 hG314 (by decide))).trans ((n361 _ (hx_ne hG0 hG314 (by decide))).trans ((n343 _ (hx_ne hG0 hG314 (by decide))).trans ((n325 _ (hx_ne hG0 hG314 (by decide))).trans g2))))))) e_pk ?_
      refine hx_k (l := 113) (m := 70) rfl rfl (by decide) (fun z432 h433 => ?_)
      refine hx_il (l := 114) rfl rfl ((n425 _ (hx_ne hG_pk hG314 (by decide))).trans ((n413 _ (hx_ne hG_pk hG314 (by decide))).trans ((n395 _ (hx_ne hG_pk hG314 (by decide))).trans ((n379 _ (hx_ne hG_pk hG314 (by decide))).trans ((n361 _ (hx_ne hG_pk hG314 (by decide))).trans ((n343 _ (hx_ne hG_pk hG314 (by decide))).trans ((n325 _ (hx_ne hG_pk hG314 (by decide))).trans g_f))))))) (by omega) (by omega) (fun z434 h435 => ?_)
      refine hx_is (s := 42) (l := 115) rfl rfl rfl hw426 hG314 g422 (by omega) (by omega) hx_sg0 (fun w436 f437 g438 e439 o440 n441 hw442 n443 => ?_)
      have hs444 := ty_same_tr hs428 (n443 fz (hx_ok hfz (by decide)))
      have hf445 := hFF _ _ (n443 pr_ (by decide)) hf429
      refine ax_go 1 (y := (116, [some (.ref o), some (.int hd), some (.int p), some (.int ov), some (.int blo), some (.int bhi), some (.int bwo), none, none, none, none, none, none, none], [.ref o], w436, 0, 0)) rfl trivial ?_
      refine hx_k (l := 117) (m := 0) rfl rfl (by decide) (fun z446 h447 => ?_)
      refine hx_pf (q := (0, 0, 0, 0, 0, 1)) (s := 30) (l := 120) (v := .int z446) rfl rfl rfl (by decide) rfl rfl rfl hw442 hG0 ((n441 _ (hx_ne hG0 hG314 (by decide))).trans ((n425 _ (hx_ne hG0 hG314 (by decide))).trans ((n413 _ (hx_ne hG0 hG314 (by decide))).trans ((n395 _ (hx_ne hG0 hG314 (by decide))).trans ((n379 _ (hx_ne hG0 hG314 (by decide))).trans ((n361 _ (hx_ne hG0 hG314 (by decide))).trans ((n343 _ (hx_ne hG0 hG314 (by decide))).trans ((n325 _ (hx_ne hG0 hG314 (by decide))).trans g2)))))))) ⟨hx_01 (by omega) (by omega), trivial⟩ (hx_ti (G := G) (lo := 0) (hi := 1) (by omega) (by omega)) (fun w448 fs449 g450 e451 o452 n453 hw454 n455 => ?_)
      have hs456 := ty_same_tr hs444 (n455 fz (hx_ok hfz (by decide)))
      have hf457 := hFF _ _ (n455 pr_ (by decide)) hf445
      refine ax_go 1 (y := (122, [some (.ref o), some (.int hd), some (.int p), some (.int ov), some (.int blo), some (.int bhi), some (.int bwo), none, none, none, none, none, none, none], [.int bwo], w448, 0, 0)) rfl trivial ?_
      refine hx_i2l (l := 123) rfl rfl (fun z458 h459 => ?_)
      refine ax_go 2 (y := (126, [some (.ref o), some (.int hd), some (.int p), some (.int ov), some (.int blo), some (.int bhi), some (.int bwo), some (.long z458), none, none, none, none, none, none], [.ref o], w448, 0, 0)) rfl trivial ?_
      refine hx_k (l := 129) (m := 400) rfl rfl (by decide) (fun z460 h461 => ?_)
      refine ax_go 1 (y := (130, [some (.ref o), some (.int hd), some (.int p), some (.int ov), some (.int blo), some (.int bhi), some (.int bwo), some (.long z458), none, none, none, none, none, none], [.ref o, .int z460, .ref o], w448, 0, 0)) rfl trivial ?_
      refine hx_gf (l := 133) rfl rfl rfl g450 ((o452 2 (by decide)).trans e_pk) ?_
      refine hx_k (l := 135) (m := 113) rfl rfl (by decide) (fun z462 h463 => ?_)
      refine hx_il (l := 136) rfl rfl ((n453 _ (hx_ne hG_pk hG0 (by decide))).trans ((n441 _ (hx_ne hG_pk hG314 (by decide))).trans ((n425 _ (hx_ne hG_pk hG314 (by decide))).trans ((n413 _ (hx_ne hG_pk hG314 (by decide))).trans ((n395 _ (hx_ne hG_pk hG314 (by decide))).trans ((n379 _ (hx_ne hG_pk hG314 (by decide))).trans ((n361 _ (hx_ne hG_pk hG314 (by decide))).trans ((n343 _ (hx_ne hG_pk hG314 (by decide))).trans ((n325 _ (hx_ne hG_pk hG314 (by decide))).trans g_f))))))))) (by omega) (by omega) (fun z464 h465 => ?_)
      have b466 := ((hf457.1.1 _ _ hG_pk ((n453 _ (hx_ne hG_pk hG0 (by decide))).trans ((n441 _ (hx_ne hG_pk hG314 (by decide))).trans ((n425 _ (hx_ne hG_pk hG314 (by decide))).trans ((n413 _ (hx_ne hG_pk hG314 (by decide))).trans ((n395 _ (hx_ne hG_pk hG314 (by decide))).trans ((n379 _ (hx_ne hG_pk hG314 (by decide))).trans ((n361 _ (hx_ne hG_pk hG314 (by decide))).trans ((n343 _ (hx_ne hG_pk hG314 (by decide))).trans ((n325 _ (hx_ne hG_pk hG314 (by decide))).trans g_f)))))))))).1 z462.toInt.toNat (by omega)).2.2.2.2.2.2.2.1 (by omega)
      rw [← h465] at b466
      rw [show z462.toInt.toNat = 113 by omega] at h465
      replace h465 := congrArg Int32.toInt h465
      refine hx_mul (l := 137) rfl rfl (fun z467 h468 => ?_)
      rw [h461] at h468
      replace h468 := h468 (by omega) (by omega)
      refine hx_pf (q := (0, 0, 0, 0, (-2147483648), 2147483647)) (s := 30) (l := 140) (v := .int z467) rfl rfl rfl (by decide) rfl rfl rfl hw454 hG0 g450 trivial (ck_top_ok (G := G) z467) (fun w469 fs470 g471 e472 o473 n474 hw475 n476 => ?_)
      have hs477 := ty_same_tr hs456 (n476 fz (hx_ok hfz (by decide)))
      have hf478 := hFF _ _ (n476 pr_ (by decide)) hf457
      refine ax_go 2 (y := (142, [some (.ref o), some (.int hd), some (.int p), some (.int ov), some (.int blo), some (.int bhi), some (.int bwo), some (.long z458), none, none, none, none, none, none], [.ref o, .ref o], w469, 0, 0)) rfl trivial ?_
      refine hx_gf (l := 145) rfl rfl rfl g471 e472 ?_
      refine ax_go 1 (y := (146, [some (.ref o), some (.int hd), some (.int p), some (.int ov), some (.int blo), some (.int bhi), some (.int bwo), some (.long z458), none, none, none, none, none, none], [.ref o, .int z467, .ref o], w469, 0, 0)) rfl trivial ?_
      refine hx_gf (l := 149) rfl rfl rfl g471 ((o473 2 (by decide)).trans ((o452 2 (by decide)).trans e_pk)) ?_
      refine hx_k (l := 151) (m := 114) rfl rfl (by decide) (fun z479 h480 => ?_)
      refine ax_go 1 (y := (152, [some (.ref o), some (.int hd), some (.int p), some (.int ov), some (.int blo), some (.int bhi), some (.int bwo), some (.long z458), none, none, none, none, none, none], [.ref o, .int z479, .ref pk, .int z467, .ref o], w469, 0, 0)) rfl trivial ?_
      refine hx_gf (l := 155) rfl rfl rfl g471 ((o473 2 (by decide)).trans ((o452 2 (by decide)).trans e_pk)) ?_
      refine hx_k (l := 157) (m := 113) rfl rfl (by decide) (fun z481 h482 => ?_)
      refine hx_il (l := 158) rfl rfl ((n474 _ (hx_ne hG_pk hG0 (by decide))).trans ((n453 _ (hx_ne hG_pk hG0 (by decide))).trans ((n441 _ (hx_ne hG_pk hG314 (by decide))).trans ((n425 _ (hx_ne hG_pk hG314 (by decide))).trans ((n413 _ (hx_ne hG_pk hG314 (by decide))).trans ((n395 _ (hx_ne hG_pk hG314 (by decide))).trans ((n379 _ (hx_ne hG_pk hG314 (by decide))).trans ((n361 _ (hx_ne hG_pk hG314 (by decide))).trans ((n343 _ (hx_ne hG_pk hG314 (by decide))).trans ((n325 _ (hx_ne hG_pk hG314 (by decide))).trans g_f)))))))))) (by omega) (by omega) (fun z483 h484 => ?_)
      have b485 := ((hf478.1.1 _ _ hG_pk ((n474 _ (hx_ne hG_pk hG0 (by decide))).trans ((n453 _ (hx_ne hG_pk hG0 (by decide))).trans ((n441 _ (hx_ne hG_pk hG314 (by decide))).trans ((n425 _ (hx_ne hG_pk hG314 (by decide))).trans ((n413 _ (hx_ne hG_pk hG314 (by decide))).trans ((n395 _ (hx_ne hG_pk hG314 (by decide))).trans ((n379 _ (hx_ne hG_pk hG314 (by decide))).trans ((n361 _ (hx_ne hG_pk hG314 (by decide))).trans ((n343 _ (hx_ne hG_pk hG314 (by decide))).trans ((n325 _ (hx_ne hG_pk hG314 (by decide))).trans g_f))))))))))).1 z481.toInt.toNat (by omega)).2.2.2.2.2.2.2.1 (by omega)
      rw [← h484] at b485
      rw [show z481.toInt.toNat = 113 by omega] at h484
      replace h484 := congrArg Int32.toInt h484
      refine hx_add (l := 159) rfl rfl (fun z486 h487 => ?_)
      replace h487 := h487 (by omega) (by omega)
      refine hx_il (l := 160) rfl rfl ((n474 _ (hx_ne hG_pk hG0 (by decide))).trans ((n453 _ (hx_ne hG_pk hG0 (by decide))).trans ((n441 _ (hx_ne hG_pk hG314 (by decide))).trans ((n425 _ (hx_ne hG_pk hG314 (by decide))).trans ((n413 _ (hx_ne hG_pk hG314 (by decide))).trans ((n395 _ (hx_ne hG_pk hG314 (by decide))).trans ((n379 _ (hx_ne hG_pk hG314 (by decide))).trans ((n361 _ (hx_ne hG_pk hG314 (by decide))).trans ((n343 _ (hx_ne hG_pk hG314 (by decide))).trans ((n325 _ (hx_ne hG_pk hG314 (by decide))).trans g_f)))))))))) (by omega) (by omega) (fun z488 h489 => ?_)
      have b490 := ((hf478.1.1 _ _ hG_pk ((n474 _ (hx_ne hG_pk hG0 (by decide))).trans ((n453 _ (hx_ne hG_pk hG0 (by decide))).trans ((n441 _ (hx_ne hG_pk hG314 (by decide))).trans ((n425 _ (hx_ne hG_pk hG314 (by decide))).trans ((n413 _ (hx_ne hG_pk hG314 (by decide))).trans ((n395 _ (hx_ne hG_pk hG314 (by decide))).trans ((n379 _ (hx_ne hG_pk hG314 (by decide))).trans ((n361 _ (hx_ne hG_pk hG314 (by decide))).trans ((n343 _ (hx_ne hG_pk hG314 (by decide))).trans ((n325 _ (hx_ne hG_pk hG314 (by decide))).trans g_f))))))))))).1 z486.toInt.toNat (by omega)).2.2.2.2.2.2.2.2 (by omega) (by omega)
      rw [← h489] at b490
      rw [show z486.toInt.toNat = 114 + (f 113).toInt.toNat by omega] at h489
      replace h489 := congrArg Int32.toInt h489
      refine hx_add (l := 161) rfl rfl (fun z491 h492 => ?_)
      replace h492 := h492 (by omega) (by omega)
      refine hx_pf (q := (0, 0, 0, 0, (-2147483648), 2147483647)) (s := 30) (l := 164) (v := .int z491) rfl rfl rfl (by decide) rfl rfl rfl hw475 hG0 g471 trivial (ck_top_ok (G := G) z491) (fun w493 fs494 g495 e496 o497 n498 hw499 n500 => ?_)
      have hs501 := ty_same_tr hs477 (n500 fz (hx_ok hfz (by decide)))
      have hf502 := hFF _ _ (n500 pr_ (by decide)) hf478
      exact ct164 _ w493 z458 none none none none z467 z491 z446 n0 m0 hw499 hf502 hs501 ⟨_, g495, ((o497 22 (by decide)).trans e472)⟩ ⟨_, g495, ((o497 2 (by decide)).trans ((o473 2 (by decide)).trans ((o452 2 (by decide)).trans e_pk)))⟩ ⟨_, g495, e496⟩ ⟨_, g495, ((o497 25 (by decide)).trans ((o473 25 (by decide)).trans e451))⟩ ((n498 _ (hx_ne hG_pk hG0 (by decide))).trans ((n474 _ (hx_ne hG_pk hG0 (by decide))).trans ((n453 _ (hx_ne hG_pk hG0 (by decide))).trans ((n441 _ (hx_ne hG_pk hG314 (by decide))).trans ((n425 _ (hx_ne hG_pk hG314 (by decide))).trans ((n413 _ (hx_ne hG_pk hG314 (by decide))).trans ((n395 _ (hx_ne hG_pk hG314 (by decide))).trans ((n379 _ (hx_ne hG_pk hG314 (by decide))).trans ((n361 _ (hx_ne hG_pk hG314 (by decide))).trans ((n343 _ (hx_ne hG_pk hG314 (by decide))).trans ((n325 _ (hx_ne hG_pk hG314 (by decide))).trans g_f))))))))))) (by rw [show z491.toInt.toNat = 400 * (f 113).toInt.toNat + (f (114 + (f 113).toInt.toNat)).toInt.toNat by omega, show z467.toInt.toNat = 400 * (f 113).toInt.toNat by omega]; exact hgl) (by omega) (by omega) (by omega) (by omega) (by omega) (by omega) (by omega) (Nat.lt_succ_self _)
    · -- 11
      refine ax_go 1 (y := (13, [some (.ref o), some (.int hd), some (.int p), some (.int ov), some (.int blo), some (.int bhi), some (.int bwo), none, none, none, none, none, none, none], [.int bwo], w, 0, 0)) rfl trivial ?_
      exact ax_ret rfl rfl trivial ⟨some (.int bwo), _, rfl, hw, hf, (ty_same_rf w), (ck_top_ok (G := G) bwo), (fun o1 q1 q2 q3 q4 q5 q6 z1 h1 h2 => by cases h1; cases h2; exact ⟨by omega, by omega⟩)⟩
def fb_X9_tensOf : List (Nat × Nat) := [(8, 3), (8, 5), (19, 999), (32, 999), (33, 999), (34, 999), (35, 999), (44, 999), (45, 999), (1, 0), (18, 999), (2, 11), (2, 14), (1, 15), (54, 11), (4, 2), (7, 9), (30, 13), (30, 34), (30, 2), (46, 999), (47, 999), (30, 35), (30, 36), (7, 0), (24, 999), (37, 999), (30, 4), (30, 5), (30, 6), (30, 8), (30, 9), (30, 10), (30, 11), (30, 14), (30, 15), (30, 16), (30, 17), (30, 18), (30, 19), (30, 20), (30, 21), (39, 999), (40, 999), (41, 999), (30, 30), (30, 42), (30, 43), (30, 44), (1, 1), (1, 3), (1, 10), (1, 13), (8, 0), (30, 49), (2, 15), (8, 1)]
set_option maxHeartbeats 8000000 in
theorem h_X9_tensOf {ro : ab_R} {G : Nat → Nat} {fz : List (Nat × Nat)} {F : ab_W → Prop} (hF : ∀ w w', smt G w w' → F w → F w') (hfz : ∀ q ∈ fz, q ∈ fb_X9_tensOf) (d : Nat) : ck_ct ro sp_ G (F9 G F) fz (ab_Ev ro ab_codes (d + 63)) 184 [(2, 30, 0), (0, 0, 9)] (some (0, 1, 99)) 0 0 := by
  have hFF := F9_same hF
  refine ck_hand (d := d + 62) (by decide) (fun as w hw hf has => ?_)
  match as, has with
  | [v0, v1], ⟨h0, h1, _⟩ =>
    obtain ⟨o, rfl, _, hG0⟩ := ty_refn h0 rfl rfl
    replace hG0 : G o = 30 := hG0
    obtain ⟨p, rfl, hl1, hh1⟩ := ty_int h1 rfl
    replace hl1 : (0 : Int) ≤ p.toInt := hl1
    replace hh1 : p.toInt ≤ 9 := hh1
    refine ⟨rfl, ?_⟩
    change ab_wp ro (ab_Ev ro ab_codes (d + 62)) 9 false (some .int) ab_k_X9_tensOf (fun o_1 => ∃ v w1, o_1 = (v, w1, 0, 0) ∧ ty_w sp_ G w1 ∧ (F9 G F) w1 ∧ ty_same G fz w w1 ∧ ck_res G (some (0, 1, 99)) v ∧ ck_wit 0 0 [.ref o, .int p] v) (0, [some (.ref o), some (.int p)], [], w, 0, 0)
    refine ax_go 1 (y := (1, [some (.ref o), some (.int p)], [.ref o], w, 0, 0)) rfl trivial ?_
    obtain ⟨fs1, g2, -, q3⟩ := hx_obj hw hG0 (s := 30) rfl (by decide)
    obtain ⟨x4, e5, a6, b7⟩ := hx_fi (k := 30) (lo := 0) (hi := 99) q3 rfl
    refine hx_gf (l := 4) rfl rfl rfl g2 e5 ?_
    refine hx_if_le (l := 7) rfl rfl (fun h8 => ?_) (fun h8 => ?_)
    · -- 14
      refine ax_go 1 (y := (15, [some (.ref o), some (.int p)], [.ref o], w, 0, 0)) rfl trivial ?_
      refine hx_k (l := 16) (m := 1) rfl rfl (by decide) (fun z9 h10 => ?_)
      refine ax_go 1 (y := (17, [some (.ref o), some (.int p)], [.int p, .int z9, .ref o], w, 0, 0)) rfl trivial ?_
      refine hx_k (l := 18) (m := (-1)) rfl rfl (by decide) (fun z11 h12 => ?_)
      refine hx_k (l := 19) (m := 2) rfl rfl (by decide) (fun z13 h14 => ?_)
      refine hx_k (l := 21) (m := 99) rfl rfl (by decide) (fun z15 h16 => ?_)
      refine ax_go 1 (y := (22, [some (.ref o), some (.int p)], [.ref o, .int z15, .int z13, .int z11, .int p, .int z9, .ref o], w, 0, 0)) rfl trivial ?_
      obtain ⟨p17, e18, hG19⟩ := hx_fr (k := 2) (s := 32) q3 rfl
      refine hx_gf (l := 25) rfl rfl rfl g2 e18 ?_
      refine hx_k (l := 27) (m := 107) rfl rfl (by decide) (fun z20 h21 => ?_)
      obtain ⟨f22, g23, r24⟩ := hx_row hw hG19 (s := 32) (kd := 0) (n := 5721) rfl (by decide)
      refine hx_il (l := 28) rfl rfl g23 (by omega) (by omega) (fun z25 h26 => ?_)
      have b27 := ((hf.1.1 _ _ hG19 g23).1 z20.toInt.toNat (by omega)).2.2.2.1 (by omega)
      rw [← h26] at b27
      refine hx_pi (l := 31) (as := [.ref o, .int z9, .int p, .int z11, .int z13, .int z15, .int z25]) rfl rfl (hx_iv (j := 183) (n := 6) (o := o) (r := []) rfl rfl g2 rfl) (hp_X9_tells (fz := fz) hF (fun q hq => (by decide +kernel : ∀ q ∈ fb_X9_tensOf, q ∈ fb_hp_X9_tells) q (hfz q hq)) (d + 0)) hw hf ⟨(hx_tr (G := G) (s := 30) (b := 0) hG0 (by decide)), (ck_top_ok (G := G) z9), (hx_ti (G := G) (lo := 0) (hi := 9) (by omega) (by omega)), (ck_top_ok (G := G) z11), (ck_top_ok (G := G) z13), (ck_top_ok (G := G) z15), (ck_top_ok (G := G) z25), trivial⟩ (fun q0 q1 q2 q3 q4 q5 q6 h1 => by cases h1; exact ⟨by omega, by omega⟩) (fun w28 z33 hw29 hf30 m31 a34 b35 u36 => ?_)
      have hs32 := ty_same_tr (ty_same_rf w) m31
      replace u36 := u36 _ _ _ _ _ _ _ _ rfl rfl
      exact ax_ret rfl rfl trivial ⟨some (.int z33), _, rfl, hw29, hf30, hs32, (hx_ti (G := G) (lo := 1) (hi := 99) (by omega) (by omega)), trivial⟩
    · -- 7
      refine ax_go 1 (y := (8, [some (.ref o), some (.int p)], [.ref o], w, 0, 0)) rfl trivial ?_
      refine hx_gf (l := 11) rfl rfl rfl g2 e5 ?_
      refine ax_go 1 (y := (31, [some (.ref o), some (.int p)], [.int x4], w, 0, 0)) rfl trivial ?_
      exact ax_ret rfl rfl trivial ⟨some (.int x4), _, rfl, hw, hf, (ty_same_rf w), (hx_ti (G := G) (lo := 1) (hi := 99) (by omega) (by omega)), trivial⟩
def fb_hp_X9_overOf : List (Nat × Nat) := [(8, 3), (8, 5), (19, 999), (32, 999), (33, 999), (34, 999), (35, 999), (44, 999), (45, 999), (1, 0), (18, 999), (2, 11), (2, 14), (1, 15), (54, 11), (4, 2), (7, 9), (30, 13), (30, 34), (30, 2), (46, 999), (47, 999), (30, 35), (30, 36), (7, 0), (24, 999), (37, 999), (30, 4), (30, 5), (30, 6), (30, 8), (30, 9), (30, 10), (30, 11), (30, 14), (30, 15), (30, 16), (30, 17), (30, 18), (30, 19), (30, 20), (30, 21), (39, 999), (40, 999), (41, 999), (30, 30), (30, 42), (30, 43), (30, 44), (1, 1), (1, 3), (1, 10), (1, 13), (8, 0), (30, 49), (2, 15), (8, 1)]
set_option maxHeartbeats 8000000 in
theorem hp_X9_overOf {ro : ab_R} {G : Nat → Nat} {fz : List (Nat × Nat)} {F : ab_W → Prop} (hF : ∀ w w', smt G w w' → F w → F w') (hfz : ∀ q ∈ fz, q ∈ fb_hp_X9_overOf) (d : Nat) : hx_ct ro sp_ G (F9 G F) fz (ab_Ev ro ab_codes (d + 64)) 185 [(2, 30, 0), (0, 0, 9)] (some (0, 0, 98)) (fun _ _ => True) (fun as w v _ => ∀ (o : Nat) (p : Int32) (pk : Nat) (f : Nat → Int32) (z : Int32), as = [.ref o, .int p] → hx_has w o 9 2 (.ref pk) → w[pk]? = some (.inl (0, 5721, .inl f)) → v = some (.int z) → z.toInt ≤ (f p.toInt.toNat).toInt) := by
  have hFF := F9_same hF
  refine hx_hand (d := d + 63) (by decide) (fun as w hw hf has hP => ?_)
  match as, has with
  | [v0, v1], ⟨h0, h1, _⟩ =>
    obtain ⟨o, rfl, _, hG0⟩ := ty_refn h0 rfl rfl
    replace hG0 : G o = 30 := hG0
    obtain ⟨p, rfl, hl1, hh1⟩ := ty_int h1 rfl
    replace hl1 : (0 : Int) ≤ p.toInt := hl1
    replace hh1 : p.toInt ≤ 9 := hh1
    refine ⟨rfl, ?_⟩
    obtain ⟨fs1, g2, -, q3⟩ := hx_obj hw hG0 (s := 30) rfl (by decide)
    obtain ⟨pk, e_pk, hG_pk⟩ := hx_fr (k := 2) (s := 32) q3 rfl
    obtain ⟨f0, g_f0, r_f0⟩ := hx_row hw hG_pk (s := 32) (kd := 0) (n := 5721) rfl (by decide)
    change ab_wp ro (ab_Ev ro ab_codes (d + 63)) 9 false (some .int) ab_k_X9_overOf (fun o_1 => ∃ v w1, o_1 = (v, w1, 0, 0) ∧ ty_w sp_ G w1 ∧ (F9 G F) w1 ∧ ty_same G fz w w1 ∧ ck_res G (some (0, 0, 98)) v ∧ (fun as w v _ => ∀ (o : Nat) (p : Int32) (pk : Nat) (f : Nat → Int32) (z : Int32), as = [.ref o, .int p] → hx_has w o 9 2 (.ref pk) → w[pk]? = some (.inl (0, 5721, .inl f)) → v = some (.int z) → z.toInt ≤ (f p.toInt.toNat).toInt) ([.ref o, .int p] : List Value) w v w1) (0, [some (.ref o), some (.int p)], [], w, 0, 0)
    refine ax_go 1 (y := (1, [some (.ref o), some (.int p)], [.ref o], w, 0, 0)) rfl trivial ?_
    refine hx_gf (l := 4) rfl rfl rfl g2 e_pk ?_
    refine hx_k (l := 5) (m := 0) rfl rfl (by decide) (fun z4 h5 => ?_)
    refine ax_go 1 (y := (6, [some (.ref o), some (.int p)], [.int p, .int z4, .ref pk], w, 0, 0)) rfl trivial ?_
    refine hx_add (l := 7) rfl rfl (fun z6 h7 => ?_)
    replace h7 := h7 (by omega) (by omega)
    refine hx_il (l := 8) rfl rfl g_f0 (by omega) (by omega) (fun z8 h9 => ?_)
    have b10 := ((hf.1.1 _ _ hG_pk g_f0).1 z6.toInt.toNat (by omega)).1.1 (by omega)
    rw [← h9] at b10
    rw [show z6.toInt.toNat = p.toInt.toNat by omega] at h9
    replace h9 := congrArg Int32.toInt h9
    refine ax_go 2 (y := (10, [some (.ref o), some (.int p)], [.int p, .ref o, .int z8], w, 0, 0)) rfl trivial ?_
    refine hx_ci (l := 13) (as := [.ref o, .int p]) rfl rfl (hx_iv (j := 184) (n := 1) (o := o) (r := [.int z8]) rfl rfl g2 rfl) (h_X9_tensOf (fz := fz) hF (fun q hq => (by decide +kernel : ∀ q ∈ fb_hp_X9_overOf, q ∈ fb_X9_tensOf) q (hfz q hq)) (d + 0)) hw hf ⟨(hx_tr (G := G) (s := 30) (b := 0) hG0 (by decide)), (hx_ti (G := G) (lo := 0) (hi := 9) (by omega) (by omega)), trivial⟩ (fun w11 z16 hw12 hf13 m14 a17 b18 u19 => ?_)
    have hs15 := ty_same_tr (ty_same_rf w) m14
    refine hx_rem (l := 14) rfl rfl (by omega) (by omega) (fun z20 a21 b22 c23 d24 => ?_)
    exact ax_ret rfl rfl trivial ⟨some (.int z20), _, rfl, hw12, hf13, hs15, (hx_ti (G := G) (lo := 0) (hi := 98) (by omega) (by omega)), (fun o1 p1 q1 f1 z1 h1 h2 h3 h4 => by cases h1; cases h4; obtain ⟨fs1, g1, e1⟩ := h2; obtain rfl := hx_inj g2 g1; cases e_pk.symm.trans e1; obtain rfl := hx_injr g_f0 h3; omega)⟩
theorem h_X9_overOf {ro : ab_R} {G : Nat → Nat} {fz : List (Nat × Nat)} {F : ab_W → Prop} (hF : ∀ w w', smt G w w' → F w → F w') (hfz : ∀ q ∈ fz, q ∈ fb_hp_X9_overOf) (d : Nat) : ck_ct ro sp_ G (F9 G F) fz (ab_Ev ro ab_codes (d + 64)) 185 [(2, 30, 0), (0, 0, 9)] (some (0, 0, 98)) 0 0 := hx_weak (hp_X9_overOf hF hfz d) (fun _ _ => trivial)
def fb_hp_X9_walkersOf : List (Nat × Nat) := [(8, 3), (8, 5), (19, 999), (32, 999), (33, 999), (34, 999), (35, 999), (44, 999), (45, 999), (1, 0), (18, 999), (2, 11), (2, 14), (1, 15), (54, 11), (4, 2), (7, 9), (30, 13), (30, 34), (30, 2), (46, 999), (47, 999), (30, 35), (30, 36), (7, 0), (24, 999), (37, 999), (30, 4), (30, 5), (30, 6), (30, 8), (30, 9), (30, 10), (30, 11), (30, 14), (30, 15), (30, 16), (30, 17), (30, 18), (30, 19), (30, 20), (30, 21), (39, 999), (40, 999), (41, 999), (30, 30), (30, 42), (30, 43), (30, 44), (1, 1), (1, 3), (1, 10), (1, 13), (8, 0), (30, 49), (2, 15), (8, 1)]
set_option maxHeartbeats 8000000 in
theorem hp_X9_walkersOf {ro : ab_R} {G : Nat → Nat} {fz : List (Nat × Nat)} {F : ab_W → Prop} (hF : ∀ w w', smt G w w' → F w → F w') (hfz : ∀ q ∈ fz, q ∈ fb_hp_X9_walkersOf) (d : Nat) : hx_ct ro sp_ G (F9 G F) fz (ab_Ev ro ab_codes (d + 65)) 186 [(2, 30, 0), (0, 0, 9)] (some (0, 0, 98)) (fun _ _ => True) (fun as w v _ => ∀ (o : Nat) (p : Int32) (pk : Nat) (f : Nat → Int32) (z : Int32), as = [.ref o, .int p] → hx_has w o 9 2 (.ref pk) → w[pk]? = some (.inl (0, 5721, .inl f)) → v = some (.int z) → z.toInt ≤ (f p.toInt.toNat).toInt) := by
  have hFF := F9_same hF
  refine hx_hand (d := d + 64) (by decide) (fun as w hw hf has hP => ?_)
  match as, has with
  | [v0, v1], ⟨h0, h1, _⟩ =>
    obtain ⟨o, rfl, _, hG0⟩ := ty_refn h0 rfl rfl
    replace hG0 : G o = 30 := hG0
    obtain ⟨p, rfl, hl1, hh1⟩ := ty_int h1 rfl
    replace hl1 : (0 : Int) ≤ p.toInt := hl1
    replace hh1 : p.toInt ≤ 9 := hh1
    refine ⟨rfl, ?_⟩
    obtain ⟨fs1, g2, -, q3⟩ := hx_obj hw hG0 (s := 30) rfl (by decide)
    obtain ⟨pk, e_pk, hG_pk⟩ := hx_fr (k := 2) (s := 32) q3 rfl
    obtain ⟨f0, g_f0, r_f0⟩ := hx_row hw hG_pk (s := 32) (kd := 0) (n := 5721) rfl (by decide)
    change ab_wp ro (ab_Ev ro ab_codes (d + 64)) 9 false (some .int) ab_k_X9_walkersOf (fun o_1 => ∃ v w1, o_1 = (v, w1, 0, 0) ∧ ty_w sp_ G w1 ∧ (F9 G F) w1 ∧ ty_same G fz w w1 ∧ ck_res G (some (0, 0, 98)) v ∧ (fun as w v _ => ∀ (o : Nat) (p : Int32) (pk : Nat) (f : Nat → Int32) (z : Int32), as = [.ref o, .int p] → hx_has w o 9 2 (.ref pk) → w[pk]? = some (.inl (0, 5721, .inl f)) → v = some (.int z) → z.toInt ≤ (f p.toInt.toNat).toInt) ([.ref o, .int p] : List Value) w v w1) (0, [some (.ref o), some (.int p), none], [], w, 0, 0)
    refine ax_go 2 (y := (2, [some (.ref o), some (.int p), none], [.int p, .ref o], w, 0, 0)) rfl trivial ?_
    refine hx_pi (l := 5) (as := [.ref o, .int p]) rfl rfl (hx_iv (j := 185) (n := 1) (o := o) (r := []) rfl rfl g2 rfl) (hp_X9_overOf (fz := fz) hF (fun q hq => (by decide +kernel : ∀ q ∈ fb_hp_X9_walkersOf, q ∈ fb_hp_X9_overOf) q (hfz q hq)) (d + 0)) hw hf ⟨(hx_tr (G := G) (s := 30) (b := 0) hG0 (by decide)), (hx_ti (G := G) (lo := 0) (hi := 9) (by omega) (by omega)), trivial⟩ trivial (fun w4 z9 hw5 hf6 m7 a10 b11 u12 => ?_)
    have hs8 := ty_same_tr (ty_same_rf w) m7
    replace u12 := u12 _ _ _ _ _ rfl ⟨_, g2, e_pk⟩ g_f0 rfl
    refine ax_go 4 (y := (9, [some (.ref o), some (.int p), some (.int z9)], [.ref o, .int z9, .int z9], w4, 0, 0)) rfl trivial ?_
    refine hx_k (l := 10) (m := 2) rfl rfl (by decide) (fun z13 h14 => ?_)
    refine ax_go 2 (y := (12, [some (.ref o), some (.int p), some (.int z9)], [.int z9, .int p, .int z13, .ref o, .int z9, .int z9], w4, 0, 0)) rfl trivial ?_
    refine hx_k (l := 13) (m := 0) rfl rfl (by decide) (fun z15 h16 => ?_)
    refine hx_k (l := 15) (m := 98) rfl rfl (by decide) (fun z17 h18 => ?_)
    refine hx_k (l := 16) (m := 0) rfl rfl (by decide) (fun z19 h20 => ?_)
    obtain ⟨fs21, g22, -, q23⟩ := hx_obj hw5 hG0 (s := 30) rfl (by decide)
    refine hx_pi (l := 19) (as := [.ref o, .int z13, .int p, .int z9, .int z15, .int z17, .int z19]) rfl rfl (hx_iv (j := 183) (n := 6) (o := o) (r := [.int z9, .int z9]) rfl rfl g22 rfl) (hp_X9_tells (fz := fz) hF (fun q hq => (by decide +kernel : ∀ q ∈ fb_hp_X9_walkersOf, q ∈ fb_hp_X9_tells) q (hfz q hq)) (d + 2)) hw5 hf6 ⟨(hx_tr (G := G) (s := 30) (b := 0) hG0 (by decide)), (ck_top_ok (G := G) z13), (hx_ti (G := G) (lo := 0) (hi := 9) (by omega) (by omega)), (ck_top_ok (G := G) z9), (ck_top_ok (G := G) z15), (ck_top_ok (G := G) z17), (ck_top_ok (G := G) z19), trivial⟩ (fun q0 q1 q2 q3 q4 q5 q6 h1 => by cases h1; exact ⟨by omega, by omega⟩) (fun w24 z29 hw25 hf26 m27 a30 b31 u32 => ?_)
    have hs28 := ty_same_tr hs8 m27
    replace u32 := u32 _ _ _ _ _ _ _ _ rfl rfl
    refine hx_pi (l := 22) (as := [.int z9, .int z29]) rfl rfl rfl (hp_X9_lesser (fz := fz) hFF (fun q hq => (by decide +kernel : ∀ q ∈ fb_hp_X9_walkersOf, q ∈ fb_hp_X9_lesser) q (hfz q hq)) (d + 63)) hw25 hf26 ⟨(ck_top_ok (G := G) z9), (ck_top_ok (G := G) z29), trivial⟩ trivial (fun w33 z38 hw34 hf35 m36 a39 b40 u41 => ?_)
    rw [u41.1]
    have u42 := u41.2 _ _ _ rfl rfl
    refine hx_sub (l := 23) rfl rfl (fun z43 h44 => ?_)
    replace h44 := h44 (by omega) (by omega)
    exact ax_ret rfl rfl trivial ⟨some (.int z43), _, rfl, hw25, hf26, hs28, (hx_ti (G := G) (lo := 0) (hi := 98) (by omega) (by omega)), (fun o1 p1 q1 f1 z1 h1 h2 h3 h4 => by cases h1; cases h4; obtain ⟨fs1, g1, e1⟩ := h2; obtain rfl := hx_inj g2 g1; cases e_pk.symm.trans e1; obtain rfl := hx_injr g_f0 h3; omega)⟩
theorem h_X9_walkersOf {ro : ab_R} {G : Nat → Nat} {fz : List (Nat × Nat)} {F : ab_W → Prop} (hF : ∀ w w', smt G w w' → F w → F w') (hfz : ∀ q ∈ fz, q ∈ fb_hp_X9_walkersOf) (d : Nat) : ck_ct ro sp_ G (F9 G F) fz (ab_Ev ro ab_codes (d + 65)) 186 [(2, 30, 0), (0, 0, 9)] (some (0, 0, 98)) 0 0 := hx_weak (hp_X9_walkersOf hF hfz d) (fun _ _ => trivial)
def fb_X9_stepsOf : List (Nat × Nat) := [(8, 3), (8, 5), (19, 999), (32, 999), (33, 999), (34, 999), (35, 999), (44, 999), (45, 999), (1, 0), (18, 999), (2, 11), (2, 14), (1, 15), (54, 11), (4, 2), (7, 9), (30, 13), (30, 34), (30, 2), (46, 999), (47, 999), (30, 35), (30, 36), (7, 0), (24, 999), (37, 999), (30, 4), (30, 5), (30, 6), (30, 8), (30, 9), (30, 10), (30, 11), (30, 14), (30, 15), (30, 16), (30, 17), (30, 18), (30, 19), (30, 20), (30, 21), (39, 999), (40, 999), (41, 999), (30, 30), (30, 42), (30, 43), (30, 44), (1, 1), (1, 3), (1, 10), (1, 13), (8, 0), (30, 49), (2, 15), (8, 1)]
set_option maxHeartbeats 8000000 in
theorem h_X9_stepsOf {ro : ab_R} {G : Nat → Nat} {fz : List (Nat × Nat)} {F : ab_W → Prop} (hF : ∀ w w', smt G w w' → F w → F w') (hfz : ∀ q ∈ fz, q ∈ fb_X9_stepsOf) (d : Nat) : ck_ct ro sp_ G (F9 G F) fz (ab_Ev ro ab_codes (d + 65)) 187 [(2, 30, 0), (0, 0, 9)] (some (0, 1, 9)) 0 0 := by
  have hFF := F9_same hF
  refine ck_hand (d := d + 64) (by decide) (fun as w hw hf has => ?_)
  match as, has with
  | [v0, v1], ⟨h0, h1, _⟩ =>
    obtain ⟨o, rfl, _, hG0⟩ := ty_refn h0 rfl rfl
    replace hG0 : G o = 30 := hG0
    obtain ⟨p, rfl, hl1, hh1⟩ := ty_int h1 rfl
    replace hl1 : (0 : Int) ≤ p.toInt := hl1
    replace hh1 : p.toInt ≤ 9 := hh1
    refine ⟨rfl, ?_⟩
    change ab_wp ro (ab_Ev ro ab_codes (d + 64)) 9 false (some .int) ab_k_X9_stepsOf (fun o_1 => ∃ v w1, o_1 = (v, w1, 0, 0) ∧ ty_w sp_ G w1 ∧ (F9 G F) w1 ∧ ty_same G fz w w1 ∧ ck_res G (some (0, 1, 9)) v ∧ ck_wit 0 0 [.ref o, .int p] v) (0, [some (.ref o), some (.int p)], [], w, 0, 0)
    refine ax_go 1 (y := (1, [some (.ref o), some (.int p)], [.ref o], w, 0, 0)) rfl trivial ?_
    refine hx_k (l := 2) (m := 3) rfl rfl (by decide) (fun z1 h2 => ?_)
    refine ax_go 3 (y := (5, [some (.ref o), some (.int p)], [.int p, .ref o, .int p, .int z1, .ref o], w, 0, 0)) rfl trivial ?_
    obtain ⟨fs3, g4, -, q5⟩ := hx_obj hw hG0 (s := 30) rfl (by decide)
    obtain ⟨p15, e16, hG17⟩ := hx_fr (k := 2) (s := 32) q5 rfl
    obtain ⟨f18, g19, r20⟩ := hx_row hw hG17 (s := 32) (kd := 0) (n := 5721) rfl (by decide)
    refine hx_pi (l := 8) (as := [.ref o, .int p]) rfl rfl (hx_iv (j := 185) (n := 1) (o := o) (r := [.int p, .int z1, .ref o]) rfl rfl g4 rfl) (hp_X9_overOf (fz := fz) hF (fun q hq => (by decide +kernel : ∀ q ∈ fb_X9_stepsOf, q ∈ fb_hp_X9_overOf) q (hfz q hq)) (d + 0)) hw hf ⟨(hx_tr (G := G) (s := 30) (b := 0) hG0 (by decide)), (hx_ti (G := G) (lo := 0) (hi := 9) (by omega) (by omega)), trivial⟩ trivial (fun w6 z11 hw7 hf8 m9 a12 b13 u14 => ?_)
    have hs10 := ty_same_tr (ty_same_rf w) m9
    replace u14 := u14 _ _ _ _ _ rfl ⟨_, g4, e16⟩ g19 rfl
    refine hx_k (l := 9) (m := 1) rfl rfl (by decide) (fun z21 h22 => ?_)
    refine hx_k (l := 11) (m := 9) rfl rfl (by decide) (fun z23 h24 => ?_)
    refine hx_k (l := 12) (m := 1) rfl rfl (by decide) (fun z25 h26 => ?_)
    obtain ⟨fs27, g28, -, q29⟩ := hx_obj hw7 hG0 (s := 30) rfl (by decide)
    refine hx_pi (l := 15) (as := [.ref o, .int z1, .int p, .int z11, .int z21, .int z23, .int z25]) rfl rfl (hx_iv (j := 183) (n := 6) (o := o) (r := []) rfl rfl g28 rfl) (hp_X9_tells (fz := fz) hF (fun q hq => (by decide +kernel : ∀ q ∈ fb_X9_stepsOf, q ∈ fb_hp_X9_tells) q (hfz q hq)) (d + 2)) hw7 hf8 ⟨(hx_tr (G := G) (s := 30) (b := 0) hG0 (by decide)), (ck_top_ok (G := G) z1), (hx_ti (G := G) (lo := 0) (hi := 9) (by omega) (by omega)), (ck_top_ok (G := G) z11), (ck_top_ok (G := G) z21), (ck_top_ok (G := G) z23), (ck_top_ok (G := G) z25), trivial⟩ (fun q0 q1 q2 q3 q4 q5 q6 h1 => by cases h1; exact ⟨by omega, by omega⟩) (fun w30 z35 hw31 hf32 m33 a36 b37 u38 => ?_)
    have hs34 := ty_same_tr hs10 m33
    replace u38 := u38 _ _ _ _ _ _ _ _ rfl rfl
    exact ax_ret rfl rfl trivial ⟨some (.int z35), _, rfl, hw31, hf32, hs34, (hx_ti (G := G) (lo := 1) (hi := 9) (by omega) (by omega)), trivial⟩
def fb_X9_isBarred : List (Nat × Nat) := [(8, 3), (8, 5), (19, 999), (32, 999), (33, 999), (34, 999), (35, 999), (44, 999), (45, 999), (1, 0), (18, 999), (2, 11), (2, 14), (1, 15), (54, 11), (4, 2), (7, 9), (30, 13), (30, 34), (30, 2), (46, 999), (47, 999), (30, 35), (30, 36), (7, 0), (24, 999), (37, 999), (30, 4), (30, 5), (30, 6), (30, 8), (30, 9), (30, 10), (30, 11), (30, 14), (30, 15), (30, 16), (30, 17), (30, 18), (30, 19), (30, 20), (30, 21), (39, 999), (40, 999), (41, 999), (30, 30), (30, 42), (30, 43), (30, 44), (1, 1), (1, 3), (1, 10), (1, 13), (8, 0), (30, 49), (2, 15), (8, 1)]
set_option maxHeartbeats 8000000 in
theorem h_X9_isBarred {ro : ab_R} {G : Nat → Nat} {fz : List (Nat × Nat)} {F : ab_W → Prop} (hF : ∀ w w', smt G w w' → F w → F w') (hfz : ∀ q ∈ fz, q ∈ fb_X9_isBarred) (d : Nat) : ck_ct ro sp_ G (F9 G F) fz (ab_Ev ro ab_codes (d + 65)) 188 [(2, 30, 0), (0, 0, 9)] (some (0, 0, 1)) 0 0 := by
  have hFF := F9_same hF
  refine ck_hand (d := d + 64) (by decide) (fun as w hw hf has => ?_)
  match as, has with
  | [v0, v1], ⟨h0, h1, _⟩ =>
    obtain ⟨o, rfl, _, hG0⟩ := ty_refn h0 rfl rfl
    replace hG0 : G o = 30 := hG0
    obtain ⟨p, rfl, hl1, hh1⟩ := ty_int h1 rfl
    replace hl1 : (0 : Int) ≤ p.toInt := hl1
    replace hh1 : p.toInt ≤ 9 := hh1
    refine ⟨rfl, ?_⟩
    change ab_wp ro (ab_Ev ro ab_codes (d + 64)) 9 false (some .boolean) ab_k_X9_isBarred (fun o_1 => ∃ v w1, o_1 = (v, w1, 0, 0) ∧ ty_w sp_ G w1 ∧ (F9 G F) w1 ∧ ty_same G fz w w1 ∧ ck_res G (some (0, 0, 1)) v ∧ ck_wit 0 0 [.ref o, .int p] v) (0, [some (.ref o), some (.int p)], [], w, 0, 0)
    refine ax_go 1 (y := (1, [some (.ref o), some (.int p)], [.ref o], w, 0, 0)) rfl trivial ?_
    refine hx_k (l := 2) (m := 4) rfl rfl (by decide) (fun z1 h2 => ?_)
    refine ax_go 3 (y := (5, [some (.ref o), some (.int p)], [.int p, .ref o, .int p, .int z1, .ref o], w, 0, 0)) rfl trivial ?_
    obtain ⟨fs3, g4, -, q5⟩ := hx_obj hw hG0 (s := 30) rfl (by decide)
    obtain ⟨p15, e16, hG17⟩ := hx_fr (k := 2) (s := 32) q5 rfl
    obtain ⟨f18, g19, r20⟩ := hx_row hw hG17 (s := 32) (kd := 0) (n := 5721) rfl (by decide)
    refine hx_pi (l := 8) (as := [.ref o, .int p]) rfl rfl (hx_iv (j := 185) (n := 1) (o := o) (r := [.int p, .int z1, .ref o]) rfl rfl g4 rfl) (hp_X9_overOf (fz := fz) hF (fun q hq => (by decide +kernel : ∀ q ∈ fb_X9_isBarred, q ∈ fb_hp_X9_overOf) q (hfz q hq)) (d + 0)) hw hf ⟨(hx_tr (G := G) (s := 30) (b := 0) hG0 (by decide)), (hx_ti (G := G) (lo := 0) (hi := 9) (by omega) (by omega)), trivial⟩ trivial (fun w6 z11 hw7 hf8 m9 a12 b13 u14 => ?_)
    have hs10 := ty_same_tr (ty_same_rf w) m9
    replace u14 := u14 _ _ _ _ _ rfl ⟨_, g4, e16⟩ g19 rfl
    refine hx_k (l := 9) (m := 0) rfl rfl (by decide) (fun z21 h22 => ?_)
    refine hx_k (l := 10) (m := 1) rfl rfl (by decide) (fun z23 h24 => ?_)
    refine hx_k (l := 11) (m := 0) rfl rfl (by decide) (fun z25 h26 => ?_)
    obtain ⟨fs27, g28, -, q29⟩ := hx_obj hw7 hG0 (s := 30) rfl (by decide)
    refine hx_pi (l := 14) (as := [.ref o, .int z1, .int p, .int z11, .int z21, .int z23, .int z25]) rfl rfl (hx_iv (j := 183) (n := 6) (o := o) (r := []) rfl rfl g28 rfl) (hp_X9_tells (fz := fz) hF (fun q hq => (by decide +kernel : ∀ q ∈ fb_X9_isBarred, q ∈ fb_hp_X9_tells) q (hfz q hq)) (d + 2)) hw7 hf8 ⟨(hx_tr (G := G) (s := 30) (b := 0) hG0 (by decide)), (ck_top_ok (G := G) z1), (hx_ti (G := G) (lo := 0) (hi := 9) (by omega) (by omega)), (ck_top_ok (G := G) z11), (ck_top_ok (G := G) z21), (ck_top_ok (G := G) z23), (ck_top_ok (G := G) z25), trivial⟩ (fun q0 q1 q2 q3 q4 q5 q6 h1 => by cases h1; exact ⟨by omega, by omega⟩) (fun w30 z35 hw31 hf32 m33 a36 b37 u38 => ?_)
    have hs34 := ty_same_tr hs10 m33
    replace u38 := u38 _ _ _ _ _ _ _ _ rfl rfl
    refine hx_k (l := 15) (m := 1) rfl rfl (by decide) (fun z39 h40 => ?_)
    refine hx_ic_ne (l := 18) rfl rfl (fun h41 => ?_) (fun h41 => ?_)
    · -- 22
      refine hx_k (l := 23) (m := 0) rfl rfl (by decide) (fun z42 h43 => ?_)
      exact ax_ret rfl rfl ⟨hx_01 (by omega) (by omega), trivial⟩ ⟨some (.int z42), _, rfl, hw31, hf32, hs34, (hx_ti (G := G) (lo := 0) (hi := 1) (by omega) (by omega)), trivial⟩
    · -- 18
      refine hx_k (l := 19) (m := 1) rfl rfl (by decide) (fun z44 h45 => ?_)
      refine ax_go 1 (y := (23, [some (.ref o), some (.int p)], [.int z44], w30, 0, 0)) rfl trivial ?_
      exact ax_ret rfl rfl ⟨hx_01 (by omega) (by omega), trivial⟩ ⟨some (.int z44), _, rfl, hw31, hf32, hs34, (hx_ti (G := G) (lo := 0) (hi := 1) (by omega) (by omega)), trivial⟩
def fb_hp_X9_wayOf : List (Nat × Nat) := [(8, 3), (8, 5), (19, 999), (32, 999), (33, 999), (34, 999), (35, 999), (44, 999), (45, 999), (1, 0), (18, 999), (2, 11), (2, 14), (1, 15), (54, 11), (4, 2), (7, 9), (30, 13), (30, 34), (30, 2), (46, 999), (47, 999), (30, 35), (30, 36), (7, 0), (24, 999), (37, 999), (30, 4), (30, 5), (30, 6), (30, 8), (30, 9), (30, 10), (30, 11), (30, 14), (30, 15), (30, 16), (30, 17), (30, 18), (30, 19), (30, 20), (30, 21), (39, 999), (40, 999), (41, 999), (30, 30), (30, 42), (30, 43), (30, 44), (1, 1), (1, 3), (1, 10), (1, 13), (8, 0), (30, 49), (2, 15), (8, 1)]
set_option maxHeartbeats 8000000 in
theorem hp_X9_wayOf {ro : ab_R} {G : Nat → Nat} {fz : List (Nat × Nat)} {F : ab_W → Prop} (hF : ∀ w w', smt G w w' → F w → F w') (hfz : ∀ q ∈ fz, q ∈ fb_hp_X9_wayOf) (d : Nat) : hx_ct ro sp_ G (F9 G F) fz (ab_Ev ro ab_codes (d + 66)) 137 [(2, 30, 0), (0, 0, 9)] (some (0, (-2147483648), 2147483647)) (fun as w => ∀ (o : Nat) (p : Int32) (pk : Nat) (f : Nat → Int32), as = [.ref o, .int p] → hx_has w o 9 2 (.ref pk) → w[pk]? = some (.inl (0, 5721, .inl f)) → 0 < (f 110).toInt) (fun _ _ _ _ => True) := by
  have hFF := F9_same hF
  refine hx_hand (d := d + 65) (by decide) (fun as w hw hf has hP => ?_)
  match as, has with
  | [v0, v1], ⟨h0, h1, _⟩ =>
    obtain ⟨o, rfl, _, hG0⟩ := ty_refn h0 rfl rfl
    replace hG0 : G o = 30 := hG0
    obtain ⟨p, rfl, hl1, hh1⟩ := ty_int h1 rfl
    replace hl1 : (0 : Int) ≤ p.toInt := hl1
    replace hh1 : p.toInt ≤ 9 := hh1
    refine ⟨rfl, ?_⟩
    obtain ⟨fs1, g2, -, q3⟩ := hx_obj hw hG0 (s := 30) rfl (by decide)
    obtain ⟨pk, e_pk, hG_pk⟩ := hx_fr (k := 2) (s := 32) q3 rfl
    obtain ⟨f0, g_f0, r_f0⟩ := hx_row hw hG_pk (s := 32) (kd := 0) (n := 5721) rfl (by decide)
    have hp0 := hP o p pk f0 rfl ⟨_, g2, e_pk⟩ g_f0
    have h71 := (hf.1.1 _ _ hG_pk g_f0).2.1 hp0
    have ct4 : ∀ (nq : Nat) (w4 : ab_W) (sm : Int32) (q : Int32), ty_w sp_ G w4 → (F9 G F) w4 → ty_same G fz w w4 → (hx_has w4 o 9 2 (.ref pk)) → (w4[pk]? = some (.inl (0, 5721, .inl f0))) → (-1 ≤ q.toInt) → (q.toInt ≤ 9) → (q.toInt + 1).toNat < nq → ab_wp ro (ab_Ev ro ab_codes (d + 65)) 9 false (some .int) ab_k_X9_wayOf (fun o_1 => ∃ v w1, o_1 = (v, w1, 0, 0) ∧ ty_w sp_ G w1 ∧ (F9 G F) w1 ∧ ty_same G fz w w1 ∧ ck_res G (some (0, (-2147483648), 2147483647)) v ∧ (fun _ _ _ _ => True) ([.ref o, .int p] : List Value) w v w1) (4, [some (.ref o), some (.int p), some (.int sm), some (.int q)], [], w4, 0, 0) := by
      intro nq
      induction nq with
      | zero => intro w4 sm q hw9 hf10 hs11 hh5 g6 i7 i8 hm; exact absurd hm (Nat.not_lt_zero _)
      | succ nq ih4 =>
        intro w4 sm q hw9 hf10 hs11 hh5 g6 i7 i8 hm4
        obtain ⟨fs12, g13, e14⟩ := hh5
        refine ax_go 1 (y := (5, [some (.ref o), some (.int p), some (.int sm), some (.int q)], [.int q], w4, 0, 0)) rfl trivial ?_
        refine hx_k (l := 6) (m := (-1)) rfl rfl (by decide) (fun z15 h16 => ?_)
        refine hx_ic_eq (l := 9) rfl rfl (fun h17 => ?_) (fun h17 => ?_)
        · -- 30
          refine ax_go 1 (y := (31, [some (.ref o), some (.int p), some (.int sm), some (.int q)], [.int sm], w4, 0, 0)) rfl trivial ?_
          exact ax_ret rfl rfl trivial ⟨some (.int sm), _, rfl, hw9, hf10, hs11, (ck_top_ok (G := G) sm), trivial⟩
        · -- 9
          refine ax_go 3 (y := (12, [some (.ref o), some (.int p), some (.int sm), some (.int q)], [.int q, .ref o, .int sm], w4, 0, 0)) rfl trivial ?_
          refine hx_ci (l := 15) (as := [.ref o, .int q]) rfl rfl (hx_iv (j := 187) (n := 1) (o := o) (r := [.int sm]) rfl rfl g13 rfl) (h_X9_stepsOf (fz := ([(32, 999), (30, 2)] ++ fz)) hF (hx_app (by decide +kernel) (fun q hq => (by decide +kernel : ∀ q ∈ fb_hp_X9_wayOf, q ∈ fb_X9_stepsOf) q (hfz q hq))) (d + 0)) hw9 hf10 ⟨(hx_tr (G := G) (s := 30) (b := 0) hG0 (by decide)), (hx_ti (G := G) (lo := 0) (hi := 9) (by omega) (by omega)), trivial⟩ (fun w18 z23 hw19 hf20 m21 a24 b25 u26 => ?_)
          have hs22 := ty_same_tr hs11 (hx_sapp m21)
          obtain ⟨fs27, g28, -, q29⟩ := hx_obj hw19 hG0 (s := 30) rfl (by decide)
          refine hx_add (l := 16) rfl rfl (fun z30 h31 => ?_)
          refine ax_go 2 (y := (18, [some (.ref o), some (.int p), some (.int z30), some (.int q)], [.ref o], w18, 0, 0)) rfl trivial ?_
          refine hx_gf (l := 21) rfl rfl rfl g28 ((hx_kf m21 (hx_mem hG0 (by decide)) g13 g28).trans e14) ?_
          refine hx_k (l := 23) (m := 71) rfl rfl (by decide) (fun z32 h33 => ?_)
          refine ax_go 1 (y := (24, [some (.ref o), some (.int p), some (.int z30), some (.int q)], [.int q, .int z32, .ref pk], w18, 0, 0)) rfl trivial ?_
          refine hx_add (l := 25) rfl rfl (fun z34 h35 => ?_)
          replace h35 := h35 (by omega) (by omega)
          have r36 := hx_rq hw19 ((hx_kr m21 (hx_mem hG_pk (by decide))).trans g6) hG_pk (s := 32) rfl
          refine hx_il (l := 26) rfl rfl ((hx_kr m21 (hx_mem hG_pk (by decide))).trans g6) (by omega) (by omega) (fun z37 h38 => ?_)
          have b39 := ((hf20.1.1 _ _ hG_pk ((hx_kr m21 (hx_mem hG_pk (by decide))).trans g6)).1 z34.toInt.toNat (by omega)).2.1 (by omega) (by omega)
          rw [← h38] at b39
          have b40 : z37.toInt < q.toInt := by
            by_cases zz : q.toInt = 0
            · have y : z37.toInt = -1 := by rw [h38, show z34.toInt.toNat = 71 by omega]; exact h71
              omega
            · have y := b39.2.2 (by omega)
              omega
          refine ax_go 2 (y := (4, [some (.ref o), some (.int p), some (.int z30), some (.int z37)], [], w18, 0, 0)) rfl trivial ?_
          exact ih4 w18 z30 z37 hw19 hf20 hs22 ⟨_, g28, ((hx_kf m21 (hx_mem hG0 (by decide)) g13 g28).trans e14)⟩ ((hx_kr m21 (hx_mem hG_pk (by decide))).trans g6) (by omega) (by omega) (by omega)
    change ab_wp ro (ab_Ev ro ab_codes (d + 65)) 9 false (some .int) ab_k_X9_wayOf (fun o_1 => ∃ v w1, o_1 = (v, w1, 0, 0) ∧ ty_w sp_ G w1 ∧ (F9 G F) w1 ∧ ty_same G fz w w1 ∧ ck_res G (some (0, (-2147483648), 2147483647)) v ∧ (fun _ _ _ _ => True) ([.ref o, .int p] : List Value) w v w1) (0, [some (.ref o), some (.int p), none, none], [], w, 0, 0)
    refine hx_k (l := 1) (m := 0) rfl rfl (by decide) (fun z41 h42 => ?_)
    refine ax_go 3 (y := (4, [some (.ref o), some (.int p), some (.int z41), some (.int p)], [], w, 0, 0)) rfl trivial ?_
    exact ct4 _ w z41 p hw hf (ty_same_rf w) ⟨_, g2, e_pk⟩ g_f0 (by omega) (by omega) (Nat.lt_succ_self _)
