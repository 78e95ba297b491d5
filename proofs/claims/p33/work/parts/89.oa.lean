/-! walks by program: an order -/
def fb_hp_X9_goesAlong : List (Nat × Nat) := [(8, 3), (8, 5), (19, 999), (32, 999), (33, 999), (34, 999), (35, 999), (44, 999), (45, 999), (1, 0), (18, 999), (2, 11), (2, 14), (1, 15), (54, 11), (4, 2), (7, 9), (30, 13), (30, 34), (30, 2), (46, 999), (47, 999), (30, 35), (30, 36), (7, 0), (24, 999), (37, 999), (30, 4), (30, 5), (30, 6), (30, 8), (30, 9), (30, 10), (30, 11), (30, 14), (30, 15), (30, 16), (30, 17), (30, 18), (30, 19), (30, 20), (30, 21), (39, 999), (40, 999), (41, 999), (30, 30), (30, 42), (1, 1), (1, 3), (1, 10), (1, 13), (8, 0), (30, 49), (2, 15), (8, 1)]
set_option maxHeartbeats 8000000 in
theorem hp_X9_goesAlong {ro : ab_R} {G : Nat → Nat} {fz : List (Nat × Nat)} {F : ab_W → Prop} (hF : ∀ w w', smt G w w' → F w → F w') {pk : Nat} {f : Nat → Int32} {a : Int32} {fn q : Nat} (hfz : ∀ q ∈ fz, q ∈ fb_hp_X9_goesAlong) (d : Nat) : hx_ct ro sp_ G (F9 G F) fz (ab_Ev ro ab_codes (d + 66)) 230 [(2, 30, 0), (0, 0, 2800), (0, 0, 1)] none (fun as w => ∀ (o : Nat) (e lv : Int32), as = [.ref o, .int e, .int lv] → 0 ≤ a.toInt ∧ a.toInt < e.toInt ∧ gor (cf f) e.toInt.toNat fn a.toInt.toNat = some q ∧ hx_has w o 9 2 (.ref pk) ∧ hx_has w o 9 42 (.int a) ∧ w[pk]? = some (.inl (0, 5721, .inl f))) (fun as _ _ w1 => ∀ (o : Nat) (e lv : Int32), as = [.ref o, .int e, .int lv] → ∃ g : Int32, hx_has w1 o 9 22 (.int g) ∧ g.toInt = (q : Int) + 1) := by
  have hFF := F9_same hF
  refine hx_hand (d := d + 65) (by decide) (fun as w hw hf has hP => ?_)
  match as, has with
  | [v0, v1, v2], ⟨h0, h1, h2, _⟩ =>
    obtain ⟨o, rfl, _, hG0⟩ := ty_refn h0 rfl rfl
    replace hG0 : G o = 30 := hG0
    obtain ⟨e, rfl, hl1, hh1⟩ := ty_int h1 rfl
    replace hl1 : (0 : Int) ≤ e.toInt := hl1
    replace hh1 : e.toInt ≤ 2800 := hh1
    obtain ⟨lv, rfl, hl2, hh2⟩ := ty_int h2 rfl
    replace hl2 : (0 : Int) ≤ lv.toInt := hl2
    replace hh2 : lv.toInt ≤ 1 := hh2
    refine ⟨rfl, ?_⟩
    obtain ⟨ha0, ha1, hgo, ⟨fs0, g0, i2⟩, ⟨fs1, g1, i42⟩, gk0⟩ := hP o e lv rfl
    obtain rfl := hx_inj g0 g1
    obtain ⟨yv, zv, hA, hB, hC⟩ := gor_e hgo
    have hG_pk : G pk = 32 := hx_sref hw g0 hG0 i2
    have ct244 : ∀ (w1 : ab_W) (n10 : Option Int32) (k10 : Option Int32) (g10 : Int32) (io10 : Int32), ty_w sp_ G w1 → (F9 G F) w1 → ty_same G fz w w1 → (hx_has w1 o 9 22 (.int g10)) → (hx_has w1 o 9 2 (.ref pk)) → (hx_has w1 o 9 23 (.int e)) → (hx_has w1 o 9 25 (.int io10)) → (w1[pk]? = some (.inl (0, 5721, .inl f))) → (g10.toInt = (q : Int)) → (g10.toInt ≤ e.toInt) → ab_wp ro (ab_Ev ro ab_codes (d + 65)) 9 false none ab_k_X9_goesAlong (fun o_1 => ∃ v w1, o_1 = (v, w1, 0, 0) ∧ ty_w sp_ G w1 ∧ (F9 G F) w1 ∧ ty_same G fz w w1 ∧ ck_res G none v ∧ (fun as _ _ w1 => ∀ (o : Nat) (e lv : Int32), as = [.ref o, .int e, .int lv] → ∃ g : Int32, hx_has w1 o 9 22 (.int g) ∧ g.toInt = (q : Int) + 1) ([.ref o, .int e, .int lv] : List Value) w v w1) (244, [some (.ref o), some (.int e), some (.int lv), (n10.map Value.int), (k10.map Value.int)], [], w1, 0, 0) := by
      intro w1 n10 k10 g10 io10 hw8 hf9 hs10 hh2 hh3 hh4 hh5 g6 hg10 i7
      obtain ⟨fs11, g12, e13⟩ := hh2
      have q14 := hx_oq hw8 g12 hG0 (s := 30) rfl
      obtain ⟨x15, e16, a17, b18⟩ := hx_fi (k := 22) (lo := (-2147483648)) (hi := 2147483647) q14 rfl
      obtain rfl : g10 = x15 := hx_inji e13 e16
      obtain ⟨fs19, g20, e21⟩ := hh3
      obtain rfl : fs11 = fs19 := hx_inj g12 g20
      obtain ⟨fs22, g23, e24⟩ := hh4
      obtain rfl : fs11 = fs22 := hx_inj g12 g23
      obtain ⟨fs25, g26, e27⟩ := hh5
      obtain rfl : fs11 = fs25 := hx_inj g12 g26
      obtain ⟨x28, e29, a30, b31⟩ := hx_fi (k := 25) (lo := 0) (hi := 1) q14 rfl
      obtain rfl : io10 = x28 := hx_inji e27 e29
      refine ax_go 2 (y := (246, [some (.ref o), some (.int e), some (.int lv), (n10.map Value.int), (k10.map Value.int)], [.ref o, .ref o], w1, 0, 0)) rfl trivial ?_
      obtain ⟨x32, e33, a34, b35⟩ := hx_fi (k := 46) (lo := 0) (hi := 1) q14 rfl
      refine hx_gf (l := 249) rfl rfl rfl g12 e33 ?_
      refine hx_if_eq (l := 252) rfl rfl (fun h36 => ?_) (fun h36 => ?_)
      · -- 263
        refine hx_k (l := 264) (m := 0) rfl rfl (by decide) (fun z37 h38 => ?_)
        refine hx_pf (q := (0, 0, 0, 0, 0, 1)) (s := 30) (l := 267) (v := .int z37) rfl rfl rfl (by decide) rfl rfl rfl hw8 hG0 g12 ⟨hx_01 (by omega) (by omega), trivial⟩ (hx_ti (G := G) (lo := 0) (hi := 1) (by omega) (by omega)) (fun w39 fs40 g41 e42 o43 n44 hw45 n46 => ?_)
        have hs47 := ty_same_tr hs10 (n46 fz (hx_ok hfz (by decide)))
        have hf48 := hFF _ _ (n46 pr_ (by decide)) hf9
        refine ax_go 2 (y := (269, [some (.ref o), some (.int e), some (.int lv), (n10.map Value.int), (k10.map Value.int)], [.ref o, .ref o], w39, 0, 0)) rfl trivial ?_
        refine hx_gf (l := 272) rfl rfl rfl g41 ((o43 22 (by decide)).trans e13) ?_
        refine hx_k (l := 273) (m := 1) rfl rfl (by decide) (fun z49 h50 => ?_)
        refine hx_add (l := 274) rfl rfl (fun z51 h52 => ?_)
        replace h52 := h52 (by omega) (by omega)
        refine hx_pf (q := (0, 0, 0, 0, (-2147483648), 2147483647)) (s := 30) (l := 277) (v := .int z51) rfl rfl rfl (by decide) rfl rfl rfl hw45 hG0 g41 trivial (ck_top_ok (G := G) z51) (fun w53 fs54 g55 e56 o57 n58 hw59 n60 => ?_)
        have hs61 := ty_same_tr hs47 (n60 fz (hx_ok hfz (by decide)))
        have hf62 := hFF _ _ (n60 pr_ (by decide)) hf48
        exact ax_ret rfl rfl trivial ⟨none, _, rfl, hw59, hf62, hs61, trivial, (fun o1 e1 l1 h1 => by cases h1; exact ⟨z51, ⟨_, g55, e56⟩, by omega⟩)⟩
      · -- 252
        refine ax_go 1 (y := (253, [some (.ref o), some (.int e), some (.int lv), (n10.map Value.int), (k10.map Value.int)], [.ref o, .ref o], w1, 0, 0)) rfl trivial ?_
        obtain ⟨x63, e64, a65, b66⟩ := hx_fi (k := 24) (lo := 0) (hi := 1) q14 rfl
        refine hx_gf (l := 256) rfl rfl rfl g12 e64 ?_
        refine hx_if_ne (l := 259) rfl rfl (fun h67 => ?_) (fun h67 => ?_)
        · -- 263
          refine hx_k (l := 264) (m := 0) rfl rfl (by decide) (fun z68 h69 => ?_)
          refine hx_pf (q := (0, 0, 0, 0, 0, 1)) (s := 30) (l := 267) (v := .int z68) rfl rfl rfl (by decide) rfl rfl rfl hw8 hG0 g12 ⟨hx_01 (by omega) (by omega), trivial⟩ (hx_ti (G := G) (lo := 0) (hi := 1) (by omega) (by omega)) (fun w70 fs71 g72 e73 o74 n75 hw76 n77 => ?_)
          have hs78 := ty_same_tr hs10 (n77 fz (hx_ok hfz (by decide)))
          have hf79 := hFF _ _ (n77 pr_ (by decide)) hf9
          refine ax_go 2 (y := (269, [some (.ref o), some (.int e), some (.int lv), (n10.map Value.int), (k10.map Value.int)], [.ref o, .ref o], w70, 0, 0)) rfl trivial ?_
          refine hx_gf (l := 272) rfl rfl rfl g72 ((o74 22 (by decide)).trans e13) ?_
          refine hx_k (l := 273) (m := 1) rfl rfl (by decide) (fun z80 h81 => ?_)
          refine hx_add (l := 274) rfl rfl (fun z82 h83 => ?_)
          replace h83 := h83 (by omega) (by omega)
          refine hx_pf (q := (0, 0, 0, 0, (-2147483648), 2147483647)) (s := 30) (l := 277) (v := .int z82) rfl rfl rfl (by decide) rfl rfl rfl hw76 hG0 g72 trivial (ck_top_ok (G := G) z82) (fun w84 fs85 g86 e87 o88 n89 hw90 n91 => ?_)
          have hs92 := ty_same_tr hs78 (n91 fz (hx_ok hfz (by decide)))
          have hf93 := hFF _ _ (n91 pr_ (by decide)) hf79
          exact ax_ret rfl rfl trivial ⟨none, _, rfl, hw90, hf93, hs92, trivial, (fun o1 e1 l1 h1 => by cases h1; exact ⟨z82, ⟨_, g86, e87⟩, by omega⟩)⟩
        · -- 259
          refine hx_k (l := 260) (m := 1) rfl rfl (by decide) (fun z94 h95 => ?_)
          refine ax_go 1 (y := (264, [some (.ref o), some (.int e), some (.int lv), (n10.map Value.int), (k10.map Value.int)], [.int z94, .ref o], w1, 0, 0)) rfl trivial ?_
          refine hx_pf (q := (0, 0, 0, 0, 0, 1)) (s := 30) (l := 267) (v := .int z94) rfl rfl rfl (by decide) rfl rfl rfl hw8 hG0 g12 ⟨hx_01 (by omega) (by omega), trivial⟩ (hx_ti (G := G) (lo := 0) (hi := 1) (by omega) (by omega)) (fun w96 fs97 g98 e99 o100 n101 hw102 n103 => ?_)
          have hs104 := ty_same_tr hs10 (n103 fz (hx_ok hfz (by decide)))
          have hf105 := hFF _ _ (n103 pr_ (by decide)) hf9
          refine ax_go 2 (y := (269, [some (.ref o), some (.int e), some (.int lv), (n10.map Value.int), (k10.map Value.int)], [.ref o, .ref o], w96, 0, 0)) rfl trivial ?_
          refine hx_gf (l := 272) rfl rfl rfl g98 ((o100 22 (by decide)).trans e13) ?_
          refine hx_k (l := 273) (m := 1) rfl rfl (by decide) (fun z106 h107 => ?_)
          refine hx_add (l := 274) rfl rfl (fun z108 h109 => ?_)
          replace h109 := h109 (by omega) (by omega)
          refine hx_pf (q := (0, 0, 0, 0, (-2147483648), 2147483647)) (s := 30) (l := 277) (v := .int z108) rfl rfl rfl (by decide) rfl rfl rfl hw102 hG0 g98 trivial (ck_top_ok (G := G) z108) (fun w110 fs111 g112 e113 o114 n115 hw116 n117 => ?_)
          have hs118 := ty_same_tr hs104 (n117 fz (hx_ok hfz (by decide)))
          have hf119 := hFF _ _ (n117 pr_ (by decide)) hf105
          exact ax_ret rfl rfl trivial ⟨none, _, rfl, hw116, hf119, hs118, trivial, (fun o1 e1 l1 h1 => by cases h1; exact ⟨z108, ⟨_, g112, e113⟩, by omega⟩)⟩
    have ct214 : ∀ (w120 : ab_W) (n9 : Option Int32) (k9 : Option Int32) (g9 : Int32) (io9 : Int32), ty_w sp_ G w120 → (F9 G F) w120 → ty_same G fz w w120 → (hx_has w120 o 9 22 (.int g9)) → (hx_has w120 o 9 2 (.ref pk)) → (hx_has w120 o 9 23 (.int e)) → (hx_has w120 o 9 25 (.int io9)) → (w120[pk]? = some (.inl (0, 5721, .inl f))) → (io9.toInt = 1) → (g9.toInt = (zv : Int)) → (g9.toInt ≤ e.toInt) → ab_wp ro (ab_Ev ro ab_codes (d + 65)) 9 false none ab_k_X9_goesAlong (fun o_1 => ∃ v w1, o_1 = (v, w1, 0, 0) ∧ ty_w sp_ G w1 ∧ (F9 G F) w1 ∧ ty_same G fz w w1 ∧ ck_res G none v ∧ (fun as _ _ w1 => ∀ (o : Nat) (e lv : Int32), as = [.ref o, .int e, .int lv] → ∃ g : Int32, hx_has w1 o 9 22 (.int g) ∧ g.toInt = (q : Int) + 1) ([.ref o, .int e, .int lv] : List Value) w v w1) (214, [some (.ref o), some (.int e), some (.int lv), (n9.map Value.int), (k9.map Value.int)], [], w120, 0, 0) := by
      intro w120 n9 k9 g9 io9 hw127 hf128 hs129 hh121 hh122 hh123 hh124 g125 i126 hg9 hg9e
      obtain ⟨fs130, g131, e132⟩ := hh121
      have q133 := hx_oq hw127 g131 hG0 (s := 30) rfl
      obtain ⟨x134, e135, a136, b137⟩ := hx_fi (k := 22) (lo := (-2147483648)) (hi := 2147483647) q133 rfl
      obtain rfl : g9 = x134 := hx_inji e132 e135
      obtain ⟨fs138, g139, e140⟩ := hh122
      obtain rfl : fs130 = fs138 := hx_inj g131 g139
      obtain ⟨fs141, g142, e143⟩ := hh123
      obtain rfl : fs130 = fs141 := hx_inj g131 g142
      obtain ⟨fs144, g145, e146⟩ := hh124
      obtain rfl : fs130 = fs144 := hx_inj g131 g145
      obtain ⟨x147, e148, a149, b150⟩ := hx_fi (k := 25) (lo := 0) (hi := 1) q133 rfl
      obtain rfl : io9 = x147 := hx_inji e146 e148
      have hio : decide (io9.toInt ≠ 0) = true := decide_eq_true (by omega)
      refine ax_go 1 (y := (215, [some (.ref o), some (.int e), some (.int lv), (n9.map Value.int), (k9.map Value.int)], [.ref o], w120, 0, 0)) rfl trivial ?_
      refine hx_k (l := 216) (m := 0) rfl rfl (by decide) (fun z151 h152 => ?_)
      refine hx_pf (q := (0, 0, 0, 0, 0, 1)) (s := 30) (l := 219) (v := .int z151) rfl rfl rfl (by decide) rfl rfl rfl hw127 hG0 g131 ⟨hx_01 (by omega) (by omega), trivial⟩ (hx_ti (G := G) (lo := 0) (hi := 1) (by omega) (by omega)) (fun w153 fs154 g155 e156 o157 n158 hw159 n160 => ?_)
      have hs161 := ty_same_tr hs129 (n160 fz (hx_ok hfz (by decide)))
      have hf162 := hFF _ _ (n160 pr_ (by decide)) hf128
      refine ax_go 2 (y := (221, [some (.ref o), some (.int e), some (.int lv), (n9.map Value.int), (k9.map Value.int)], [.ref o, .ref o], w153, 0, 0)) rfl trivial ?_
      refine hx_k (l := 222) (m := 5) rfl rfl (by decide) (fun z163 h164 => ?_)
      refine hx_pi (l := 225) (as := [.ref o, .int z163]) rfl rfl (hx_iv (j := 173) (n := 1) (o := o) (r := [.ref o]) rfl rfl g155 rfl) (hp_X9_passes0 (fz := fz) hF (pk := pk) (f := f) (g := g9) (e := e) (io := io9) ⟨by omega, by omega⟩ ⟨by omega, by omega⟩ (fun q hq => (by decide +kernel : ∀ q ∈ fb_hp_X9_goesAlong, q ∈ fb_hp_X9_passes0) q (hfz q hq)) (d + 63)) hw159 hf162 ⟨(hx_tr (G := G) (s := 30) (b := 0) hG0 (by decide)), (ck_top_ok (G := G) z163), trivial⟩ (fun o1 l1 h1 => by cases h1; exact ⟨_, g155, ((o157 2 (by decide)).trans e140), ((o157 22 (by decide)).trans e132), ((o157 23 (by decide)).trans e143), ((o157 25 (by decide)).trans e146), ((n158 _ (hx_ne hG_pk hG0 (by decide))).trans g125)⟩) (fun w165 z170 hw166 hf167 m168 a171 b172 u173 => ?_)
      have hs169 := ty_same_tr hs161 m168
      obtain ⟨gN174, ⟨fsN175, gA176, iA177, iB178, iC179, iD180, gK181⟩, ⟨hz182, hg183, ht184⟩ | ⟨hz182, hg183, ht184⟩⟩ := u173 _ _ _ rfl rfl
      · -- passed 1
        refine hx_if_eq (l := 228) rfl rfl (fun h185 => by omega) (fun h185 => ?_)
        rw [show g9.toInt.toNat = zv by omega] at hg183
        have hc1 := (hC.resolve_right (fun zz => zz.1 (by omega))).2
        have lt2 := gc_lt (c := cf f) (e := e.toInt.toNat) (p := zv) (by omega)
        refine ax_go 2 (y := (230, [some (.ref o), some (.int e), some (.int lv), (n9.map Value.int), (k9.map Value.int)], [.int lv, .ref o, .ref o], w165, 0, 0)) rfl trivial ?_
        refine hx_pi (l := 233) (as := [.ref o, .int lv]) rfl rfl (hx_iv (j := 179) (n := 1) (o := o) (r := [.ref o]) rfl rfl gA176 rfl) ((ev_all (fz := fz) hF (fun q hq => (by decide +kernel : ∀ q ∈ fb_hp_X9_goesAlong, q ∈ fb_ev) q (hfz q hq)) fn).2.2.2.2.2.2 8 pk f e io9 gN174 q (d + 65) ⟨by omega, by omega⟩ ⟨by omega, by omega⟩ (by rw [hio, show gN174.toInt.toNat = zv + 1 by omega]; exact hc1) (by omega)) hw166 hf167 ⟨(hx_tr (G := G) (s := 30) (b := 0) hG0 (by decide)), (hx_ti (G := G) (lo := 0) (hi := 1) (by omega) (by omega)), trivial⟩ (fun o1 l1 h1 => by cases h1; exact ⟨_, gA176, iA177, iB178, iC179, iD180, gK181⟩) (fun w186 z191 hw187 hf188 m189 a192 b193 u194 => ?_)
        have hs190 := ty_same_tr hs169 m189
        obtain ⟨gN195, hN196, fsN197, gA198, iA199, iB200, iC201, iD202, gK203⟩ := u194 _ _ rfl
        have le204 := gr_le hc1 (by omega)
        refine hx_if_eq (l := 236) rfl rfl (fun h205 => ?_) (fun h205 => ?_)
        · -- 240
          refine hx_k (l := 241) (m := 0) rfl rfl (by decide) (fun z206 h207 => ?_)
          refine hx_pf (q := (0, 0, 0, 0, 0, 1)) (s := 30) (l := 244) (v := .int z206) rfl rfl rfl (by decide) rfl rfl rfl hw187 hG0 gA198 ⟨hx_01 (by omega) (by omega), trivial⟩ (hx_ti (G := G) (lo := 0) (hi := 1) (by omega) (by omega)) (fun w208 fs209 g210 e211 o212 n213 hw214 n215 => ?_)
          have hs216 := ty_same_tr hs190 (n215 fz (hx_ok hfz (by decide)))
          have hf217 := hFF _ _ (n215 pr_ (by decide)) hf188
          exact ct244 w208 n9 k9 gN195 io9 hw214 hf217 hs216 ⟨_, g210, ((o212 22 (by decide)).trans iB200)⟩ ⟨_, g210, ((o212 2 (by decide)).trans iA199)⟩ ⟨_, g210, ((o212 23 (by decide)).trans iC201)⟩ ⟨_, g210, ((o212 25 (by decide)).trans iD202)⟩ ((n213 _ (hx_ne hG_pk hG0 (by decide))).trans gK203) (by omega) (by omega)
        · -- 236
          refine hx_k (l := 237) (m := 1) rfl rfl (by decide) (fun z218 h219 => ?_)
          refine ax_go 1 (y := (241, [some (.ref o), some (.int e), some (.int lv), (n9.map Value.int), (k9.map Value.int)], [.int z218, .ref o], w186, 0, 0)) rfl trivial ?_
          refine hx_pf (q := (0, 0, 0, 0, 0, 1)) (s := 30) (l := 244) (v := .int z218) rfl rfl rfl (by decide) rfl rfl rfl hw187 hG0 gA198 ⟨hx_01 (by omega) (by omega), trivial⟩ (hx_ti (G := G) (lo := 0) (hi := 1) (by omega) (by omega)) (fun w220 fs221 g222 e223 o224 n225 hw226 n227 => ?_)
          have hs228 := ty_same_tr hs190 (n227 fz (hx_ok hfz (by decide)))
          have hf229 := hFF _ _ (n227 pr_ (by decide)) hf188
          exact ct244 w220 n9 k9 gN195 io9 hw226 hf229 hs228 ⟨_, g222, ((o224 22 (by decide)).trans iB200)⟩ ⟨_, g222, ((o224 2 (by decide)).trans iA199)⟩ ⟨_, g222, ((o224 23 (by decide)).trans iC201)⟩ ⟨_, g222, ((o224 25 (by decide)).trans iD202)⟩ ((n225 _ (hx_ne hG_pk hG0 (by decide))).trans gK203) (by omega) (by omega)
      · -- passed 0
        refine hx_if_eq (l := 228) rfl rfl (fun h230 => ?_) (fun h230 => by omega)
        refine hx_k (l := 237) (m := 1) rfl rfl (by decide) (fun z231 h232 => ?_)
        refine ax_go 1 (y := (241, [some (.ref o), some (.int e), some (.int lv), (n9.map Value.int), (k9.map Value.int)], [.int z231, .ref o], w165, 0, 0)) rfl trivial ?_
        refine hx_pf (q := (0, 0, 0, 0, 0, 1)) (s := 30) (l := 244) (v := .int z231) rfl rfl rfl (by decide) rfl rfl rfl hw166 hG0 gA176 ⟨hx_01 (by omega) (by omega), trivial⟩ (hx_ti (G := G) (lo := 0) (hi := 1) (by omega) (by omega)) (fun w233 fs234 g235 e236 o237 n238 hw239 n240 => ?_)
        have hs241 := ty_same_tr hs169 (n240 fz (hx_ok hfz (by decide)))
        have hf242 := hFF _ _ (n240 pr_ (by decide)) hf167
        exact ct244 w233 n9 k9 gN174 io9 hw239 hf242 hs241 ⟨_, g235, ((o237 22 (by decide)).trans iB178)⟩ ⟨_, g235, ((o237 2 (by decide)).trans iA177)⟩ ⟨_, g235, ((o237 23 (by decide)).trans iC179)⟩ ⟨_, g235, ((o237 25 (by decide)).trans iD180)⟩ ((n238 _ (hx_ne hG_pk hG0 (by decide))).trans gK181) (by rw [show g9.toInt.toNat = zv by omega] at hg183; have b3 := (hC.resolve_left (fun zz => absurd zz.1 (by omega))).2; omega) (by omega)
    have ct173 : ∀ (w243 : ab_W) (n8 : Option Int32) (k8 : Option Int32) (g8 : Int32) (io8 : Int32), ty_w sp_ G w243 → (F9 G F) w243 → ty_same G fz w w243 → (hx_has w243 o 9 22 (.int g8)) → (hx_has w243 o 9 2 (.ref pk)) → (hx_has w243 o 9 23 (.int e)) → (hx_has w243 o 9 25 (.int io8)) → (w243[pk]? = some (.inl (0, 5721, .inl f))) → (io8.toInt = 1) → (g8.toInt = (yv : Int)) → (g8.toInt ≤ e.toInt) → ab_wp ro (ab_Ev ro ab_codes (d + 65)) 9 false none ab_k_X9_goesAlong (fun o_1 => ∃ v w1, o_1 = (v, w1, 0, 0) ∧ ty_w sp_ G w1 ∧ (F9 G F) w1 ∧ ty_same G fz w w1 ∧ ck_res G none v ∧ (fun as _ _ w1 => ∀ (o : Nat) (e lv : Int32), as = [.ref o, .int e, .int lv] → ∃ g : Int32, hx_has w1 o 9 22 (.int g) ∧ g.toInt = (q : Int) + 1) ([.ref o, .int e, .int lv] : List Value) w v w1) (173, [some (.ref o), some (.int e), some (.int lv), (n8.map Value.int), (k8.map Value.int)], [], w243, 0, 0) := by
      intro w243 n8 k8 g8 io8 hw251 hf252 hs253 hh244 hh245 hh246 hh247 g248 i249 hg8 i250
      obtain ⟨fs254, g255, e256⟩ := hh244
      have q257 := hx_oq hw251 g255 hG0 (s := 30) rfl
      obtain ⟨x258, e259, a260, b261⟩ := hx_fi (k := 22) (lo := (-2147483648)) (hi := 2147483647) q257 rfl
      obtain rfl : g8 = x258 := hx_inji e256 e259
      obtain ⟨fs262, g263, e264⟩ := hh245
      obtain rfl : fs254 = fs262 := hx_inj g255 g263
      obtain ⟨fs265, g266, e267⟩ := hh246
      obtain rfl : fs254 = fs265 := hx_inj g255 g266
      obtain ⟨fs268, g269, e270⟩ := hh247
      obtain rfl : fs254 = fs268 := hx_inj g255 g269
      obtain ⟨x271, e272, a273, b274⟩ := hx_fi (k := 25) (lo := 0) (hi := 1) q257 rfl
      obtain rfl : io8 = x271 := hx_inji e270 e272
      refine ax_go 1 (y := (174, [some (.ref o), some (.int e), some (.int lv), (n8.map Value.int), (k8.map Value.int)], [.ref o], w243, 0, 0)) rfl trivial ?_
      refine hx_k (l := 175) (m := 1) rfl rfl (by decide) (fun z275 h276 => ?_)
      refine hx_pf (q := (0, 0, 0, 0, (-2147483648), 2147483647)) (s := 30) (l := 178) (v := .int z275) rfl rfl rfl (by decide) rfl rfl rfl hw251 hG0 g255 trivial (ck_top_ok (G := G) z275) (fun w277 fs278 g279 e280 o281 n282 hw283 n284 => ?_)
      have hs285 := ty_same_tr hs253 (n284 fz (hx_ok hfz (by decide)))
      have hf286 := hFF _ _ (n284 pr_ (by decide)) hf252
      refine ax_go 1 (y := (179, [some (.ref o), some (.int e), some (.int lv), (n8.map Value.int), (k8.map Value.int)], [.ref o], w277, 0, 0)) rfl trivial ?_
      refine hx_k (l := 181) (m := 27) rfl rfl (by decide) (fun z287 h288 => ?_)
      refine hx_pi (l := 184) (as := [.ref o, .int z287]) rfl rfl (hx_iv (j := 173) (n := 1) (o := o) (r := []) rfl rfl g279 rfl) (hp_X9_passes0 (fz := fz) hF (pk := pk) (f := f) (g := g8) (e := e) (io := io8) ⟨by omega, by omega⟩ ⟨by omega, by omega⟩ (fun q hq => (by decide +kernel : ∀ q ∈ fb_hp_X9_goesAlong, q ∈ fb_hp_X9_passes0) q (hfz q hq)) (d + 63)) hw283 hf286 ⟨(hx_tr (G := G) (s := 30) (b := 0) hG0 (by decide)), (ck_top_ok (G := G) z287), trivial⟩ (fun o1 l1 h1 => by cases h1; exact ⟨_, g279, ((o281 2 (by decide)).trans e264), ((o281 22 (by decide)).trans e256), ((o281 23 (by decide)).trans e267), ((o281 25 (by decide)).trans e270), ((n282 _ (hx_ne hG_pk hG0 (by decide))).trans g248)⟩) (fun w289 z294 hw290 hf291 m292 a295 b296 u297 => ?_)
      have hs293 := ty_same_tr hs285 m292
      obtain ⟨gN298, ⟨fsN299, gA300, iA301, iB302, iC303, iD304, gK305⟩, ⟨hz306, hg307, ht308⟩ | ⟨hz306, hg307, ht308⟩⟩ := u297 _ _ _ rfl rfl
      · -- passed 1
        refine hx_if_eq (l := 187) rfl rfl (fun h309 => by omega) (fun h309 => ?_)
        rw [show g8.toInt.toNat = yv by omega] at hg307
        obtain ⟨b1, b2, b3⟩ := hB.resolve_right (fun zz => zz.1 (by omega))
        have lt1 := gc_lt (c := cf f) (e := e.toInt.toNat) (p := yv + 1) (by omega)
        refine ax_go 2 (y := (189, [some (.ref o), some (.int e), some (.int lv), (n8.map Value.int), (k8.map Value.int)], [.ref o, .ref o], w289, 0, 0)) rfl trivial ?_
        refine hx_gf (l := 192) rfl rfl rfl gA300 iA301 ?_
        refine hx_k (l := 195) (m := 2921) rfl rfl (by decide) (fun z310 h311 => ?_)
        refine ax_go 1 (y := (196, [some (.ref o), some (.int e), some (.int lv), (n8.map Value.int), (k8.map Value.int)], [.ref o, .int z310, .ref pk, .ref o], w289, 0, 0)) rfl trivial ?_
        refine hx_gf (l := 199) rfl rfl rfl gA300 iB302 ?_
        refine hx_add (l := 200) rfl rfl (fun z312 h313 => ?_)
        replace h313 := h313 (by omega) (by omega)
        have r314 := hx_rq hw290 gK305 hG_pk (s := 32) rfl
        refine hx_il (l := 201) rfl rfl gK305 (by omega) (by omega) (fun z315 h316 => ?_)
        refine hx_pf (q := (0, 0, 0, 0, (-2147483648), 2147483647)) (s := 30) (l := 204) (v := .int z315) rfl rfl rfl (by decide) rfl rfl rfl hw290 hG0 gA300 trivial (ck_top_ok (G := G) z315) (fun w317 fs318 g319 e320 o321 n322 hw323 n324 => ?_)
        have hs325 := ty_same_tr hs293 (n324 fz (hx_ok hfz (by decide)))
        have hf326 := hFF _ _ (n324 pr_ (by decide)) hf291
        refine ax_go 2 (y := (206, [some (.ref o), some (.int e), some (.int lv), (n8.map Value.int), (k8.map Value.int)], [.ref o, .ref o], w317, 0, 0)) rfl trivial ?_
        refine hx_gf (l := 209) rfl rfl rfl g319 ((o321 22 (by decide)).trans iB302) ?_
        refine hx_k (l := 210) (m := 1) rfl rfl (by decide) (fun z327 h328 => ?_)
        refine hx_add (l := 211) rfl rfl (fun z329 h330 => ?_)
        replace h330 := h330 (by omega) (by omega)
        refine hx_pf (q := (0, 0, 0, 0, (-2147483648), 2147483647)) (s := 30) (l := 214) (v := .int z329) rfl rfl rfl (by decide) rfl rfl rfl hw323 hG0 g319 trivial (ck_top_ok (G := G) z329) (fun w331 fs332 g333 e334 o335 n336 hw337 n338 => ?_)
        have hs339 := ty_same_tr hs325 (n338 fz (hx_ok hfz (by decide)))
        have hf340 := hFF _ _ (n338 pr_ (by decide)) hf326
        exact ct214 w331 n8 k8 z329 io8 hw337 hf340 hs339 ⟨_, g333, e334⟩ ⟨_, g333, ((o335 2 (by decide)).trans ((o321 2 (by decide)).trans iA301))⟩ ⟨_, g333, ((o335 23 (by decide)).trans ((o321 23 (by decide)).trans iC303))⟩ ⟨_, g333, ((o335 25 (by decide)).trans ((o321 25 (by decide)).trans iD304))⟩ ((n336 _ (hx_ne hG_pk hG0 (by decide))).trans ((n322 _ (hx_ne hG_pk hG0 (by decide))).trans gK305)) (by omega) (by omega) (by omega)
      · -- passed 0
        refine hx_if_eq (l := 187) rfl rfl (fun h341 => ?_) (fun h341 => by omega)
        exact ct214 w289 n8 k8 gN298 io8 hw290 hf291 hs293 ⟨_, gA300, iB302⟩ ⟨_, gA300, iA301⟩ ⟨_, gA300, iC303⟩ ⟨_, gA300, iD304⟩ gK305 (by omega) (by rw [show g8.toInt.toNat = yv by omega] at hg307; have b3 := (hB.resolve_left (fun zz => absurd zz.1 (by omega))).2; omega) (by omega)
    have ct106 : ∀ (nq : Nat) (w342 : ab_W) (nn : Int32) (kk : Int32) (gq : Int32) (io : Int32), ty_w sp_ G w342 → (F9 G F) w342 → ty_same G fz w w342 → (hx_has w342 o 9 22 (.int gq)) → (hx_has w342 o 9 2 (.ref pk)) → (hx_has w342 o 9 23 (.int e)) → (hx_has w342 o 9 25 (.int io)) → (w342[pk]? = some (.inl (0, 5721, .inl f))) → (io.toInt = 1) → (0 ≤ gq.toInt) → (gq.toInt ≤ e.toInt) → (0 ≤ kk.toInt) → (nn.toInt ≤ 2) → (goS (cf f) e.toInt.toNat fn nn.toInt kk.toInt gq.toInt.toNat yv) → (3 - kk.toInt).toNat < nq → ab_wp ro (ab_Ev ro ab_codes (d + 65)) 9 false none ab_k_X9_goesAlong (fun o_1 => ∃ v w1, o_1 = (v, w1, 0, 0) ∧ ty_w sp_ G w1 ∧ (F9 G F) w1 ∧ ty_same G fz w w1 ∧ ck_res G none v ∧ (fun as _ _ w1 => ∀ (o : Nat) (e lv : Int32), as = [.ref o, .int e, .int lv] → ∃ g : Int32, hx_has w1 o 9 22 (.int g) ∧ g.toInt = (q : Int) + 1) ([.ref o, .int e, .int lv] : List Value) w v w1) (106, [some (.ref o), some (.int e), some (.int lv), some (.int nn), some (.int kk)], [], w342, 0, 0) := by
      intro nq
      induction nq with
      | zero => intro w342 nn kk gq io hw353 hf354 hs355 hh343 hh344 hh345 hh346 g347 i348 i349 i350 i351 i352 hS hm; exact absurd hm (Nat.not_lt_zero _)
      | succ nq ih106 =>
        intro w342 nn kk gq io hw353 hf354 hs355 hh343 hh344 hh345 hh346 g347 i348 i349 i350 i351 i352 hS hm106
        obtain ⟨fs356, g357, e358⟩ := hh343
        have q359 := hx_oq hw353 g357 hG0 (s := 30) rfl
        obtain ⟨x360, e361, a362, b363⟩ := hx_fi (k := 22) (lo := (-2147483648)) (hi := 2147483647) q359 rfl
        obtain rfl : gq = x360 := hx_inji e358 e361
        obtain ⟨fs364, g365, e366⟩ := hh344
        obtain rfl : fs356 = fs364 := hx_inj g357 g365
        obtain ⟨fs367, g368, e369⟩ := hh345
        obtain rfl : fs356 = fs367 := hx_inj g357 g368
        obtain ⟨fs370, g371, e372⟩ := hh346
        obtain rfl : fs356 = fs370 := hx_inj g357 g371
        obtain ⟨x373, e374, a375, b376⟩ := hx_fi (k := 25) (lo := 0) (hi := 1) q359 rfl
        obtain rfl : io = x373 := hx_inji e372 e374
        have hio : decide (io.toInt ≠ 0) = true := decide_eq_true (by omega)
        have ct167 : ∀ (w377 : ab_W) (n7 : Int32) (k7 : Int32) (g7 : Int32), ty_w sp_ G w377 → (F9 G F) w377 → ty_same G fz w w377 → (hx_has w377 o 9 22 (.int g7)) → (hx_has w377 o 9 2 (.ref pk)) → (hx_has w377 o 9 23 (.int e)) → (hx_has w377 o 9 25 (.int io)) → (w377[pk]? = some (.inl (0, 5721, .inl f))) → (n7.toInt = nn.toInt) → (k7.toInt = kk.toInt) → (kk.toInt < nn.toInt) → (0 ≤ g7.toInt) → (g7.toInt ≤ e.toInt) → (goS (cf f) e.toInt.toNat fn nn.toInt (kk.toInt + 1) g7.toInt.toNat yv) → ab_wp ro (ab_Ev ro ab_codes (d + 65)) 9 false none ab_k_X9_goesAlong (fun o_1 => ∃ v w1, o_1 = (v, w1, 0, 0) ∧ ty_w sp_ G w1 ∧ (F9 G F) w1 ∧ ty_same G fz w w1 ∧ ck_res G none v ∧ (fun as _ _ w1 => ∀ (o : Nat) (e lv : Int32), as = [.ref o, .int e, .int lv] → ∃ g : Int32, hx_has w1 o 9 22 (.int g) ∧ g.toInt = (q : Int) + 1) ([.ref o, .int e, .int lv] : List Value) w v w1) (167, [some (.ref o), some (.int e), some (.int lv), some (.int n7), some (.int k7)], [], w377, 0, 0) := by
          intro w377 n7 k7 g7 hw388 hf389 hs390 hh378 hh379 hh380 hh381 g382 i383 i384 i385 i386 i387 hS7
          obtain ⟨fs391, g392, e393⟩ := hh378
          have q394 := hx_oq hw388 g392 hG0 (s := 30) rfl
          obtain ⟨x395, e396, a397, b398⟩ := hx_fi (k := 22) (lo := (-2147483648)) (hi := 2147483647) q394 rfl
          obtain rfl : g7 = x395 := hx_inji e393 e396
          obtain ⟨fs399, g400, e401⟩ := hh379
          obtain rfl : fs391 = fs399 := hx_inj g392 g400
          obtain ⟨fs402, g403, e404⟩ := hh380
          obtain rfl : fs391 = fs402 := hx_inj g392 g403
          obtain ⟨fs405, g406, e407⟩ := hh381
          obtain rfl : fs391 = fs405 := hx_inj g392 g406
          refine hx_iinc (x := k7) (n := 1) (l := 170) rfl rfl rfl (Nat.le_of_ble_eq_true rfl) (by omega) (by omega) (by decide) (fun z408 h409 => ?_)
          change ab_wp ro (ab_Ev ro ab_codes (d + 65)) 9 false none ab_k_X9_goesAlong (fun o_1 => ∃ v w1, o_1 = (v, w1, 0, 0) ∧ ty_w sp_ G w1 ∧ (F9 G F) w1 ∧ ty_same G fz w w1 ∧ ck_res G none v ∧ (fun as _ _ w1 => ∀ (o : Nat) (e lv : Int32), as = [.ref o, .int e, .int lv] → ∃ g : Int32, hx_has w1 o 9 22 (.int g) ∧ g.toInt = (q : Int) + 1) ([.ref o, .int e, .int lv] : List Value) w v w1) (170, [some (.ref o), some (.int e), some (.int lv), some (.int n7), some (.int z408)], [], w377, 0, 0)
          refine ax_go 1 (y := (106, [some (.ref o), some (.int e), some (.int lv), some (.int n7), some (.int z408)], [], w377, 0, 0)) rfl trivial ?_
          exact ih106 w377 n7 z408 g7 io hw388 hf389 hs390 ⟨_, g392, e393⟩ ⟨_, g392, e401⟩ ⟨_, g392, e404⟩ ⟨_, g392, e407⟩ g382 (by omega) (by omega) (by omega) (by omega) (by omega) (by rw [show z408.toInt = kk.toInt + 1 by omega, show n7.toInt = nn.toInt by omega]; exact hS7) (by omega)
        refine ax_go 2 (y := (109, [some (.ref o), some (.int e), some (.int lv), some (.int nn), some (.int kk)], [.int nn, .int kk], w342, 0, 0)) rfl trivial ?_
        refine hx_ic_ge (l := 112) rfl rfl (fun h410 => ?_) (fun h410 => ?_)
        · -- 173
          exact ct173 w342 (some nn) (some kk) gq io hw353 hf354 hs355 ⟨_, g357, e358⟩ ⟨_, g357, e366⟩ ⟨_, g357, e369⟩ ⟨_, g357, e372⟩ g347 (by omega) (by rcases hS with ⟨h1, h2⟩ | ⟨h1, h2, _⟩ | ⟨h1, h2, _⟩ | ⟨h1, h2, _⟩ <;> omega) (by omega)
        · -- 112
          rcases hS with ⟨h1, h2⟩ | ⟨h1, hk0, hg0⟩ | ⟨h1, hk0, hg0⟩ | ⟨h1, hk0, x1, hg0, hg1⟩
          · exact absurd h1 (by omega)
          · -- case a
            have lt0 := gr_in2 hg0
            refine ax_go 1 (y := (114, [some (.ref o), some (.int e), some (.int lv), some (.int nn), some (.int kk)], [.int kk], w342, 0, 0)) rfl trivial ?_
            refine hx_if_le (l := 117) rfl rfl (fun h411 => ?_) (fun h411 => by omega)
            refine ax_go 1 (y := (128, [some (.ref o), some (.int e), some (.int lv), some (.int nn), some (.int kk)], [.ref o], w342, 0, 0)) rfl trivial ?_
            refine hx_k (l := 129) (m := 0) rfl rfl (by decide) (fun z412 h413 => ?_)
            refine hx_pf (q := (0, 0, 0, 0, 0, 1)) (s := 30) (l := 132) (v := .int z412) rfl rfl rfl (by decide) rfl rfl rfl hw353 hG0 g357 ⟨hx_01 (by omega) (by omega), trivial⟩ (hx_ti (G := G) (lo := 0) (hi := 1) (by omega) (by omega)) (fun w414 fs415 g416 e417 o418 n419 hw420 n421 => ?_)
            have hs422 := ty_same_tr hs355 (n421 fz (hx_ok hfz (by decide)))
            have hf423 := hFF _ _ (n421 pr_ (by decide)) hf354
            refine ax_go 1 (y := (133, [some (.ref o), some (.int e), some (.int lv), some (.int nn), some (.int kk)], [.ref o], w414, 0, 0)) rfl trivial ?_
            have q424 := hx_oq hw420 g416 hG0 (s := 30) rfl
            obtain ⟨p425, e426, hG427⟩ := hx_fr (k := 47) (s := 52) q424 rfl
            refine hx_gf (l := 136) rfl rfl rfl g416 e426 ?_
            refine ax_go 3 (y := (140, [some (.ref o), some (.int e), some (.int lv), some (.int nn), some (.int kk)], [.int lv, .ref o, .int kk, .ref p425], w414, 0, 0)) rfl trivial ?_
            refine hx_pj (l := 143) (as := [.ref o, .int lv]) rfl rfl (hx_iv (j := 175) (n := 1) (o := o) (r := [.int kk, .ref p425]) rfl rfl g416 rfl) ((ev_all (fz := fz) hF (fun q hq => (by decide +kernel : ∀ q ∈ fb_hp_X9_goesAlong, q ∈ fb_ev) q (hfz q hq)) fn).2.2.1 8 pk f e io gq yv (d + 65) ⟨by omega, by omega⟩ ⟨by omega, by omega⟩ (by rw [hio, show gq.toInt.toNat = gq.toInt.toNat by omega]; exact hg0) (by omega)) hw420 hf423 ⟨(hx_tr (G := G) (s := 30) (b := 0) hG0 (by decide)), (hx_ti (G := G) (lo := 0) (hi := 1) (by omega) (by omega)), trivial⟩ (fun o1 l1 h1 => by cases h1; exact ⟨_, g416, ((o418 2 (by decide)).trans e366), ((o418 22 (by decide)).trans e358), ((o418 23 (by decide)).trans e369), ((o418 25 (by decide)).trans e372), ((n419 _ (hx_ne hG_pk hG0 (by decide))).trans g347)⟩) (fun w428 z433 hw429 hf430 m431 a434 b435 u436 => ?_)
            have hs432 := ty_same_tr hs422 m431
            obtain ⟨gN437, hN438, fsN439, gA440, iA441, iB442, iC443, iD444, gK445⟩ := u436 _ _ rfl
            have le446 := gr_le hg0 (by omega)
            obtain ⟨f447, g448⟩ := hx_lrow hw429 hG427 (s := 52) (n := 2) rfl (by decide)
            refine hx_ls (s := 52) (l := 144) rfl rfl rfl hw429 hG427 g448 (by omega) (by omega) (fun w450 f451 g452 n455 hw456 n457 => ?_)
            have hs458 := ty_same_tr hs432 (n457 fz (hx_ok hfz (by decide)))
            have hf459 := hFF _ _ (n457 pr_ (by decide)) hf430
            refine ax_go 2 (y := (146, [some (.ref o), some (.int e), some (.int lv), some (.int nn), some (.int kk)], [.ref o, .ref o], w450, 0, 0)) rfl trivial ?_
            have q460 := hx_oq hw456 ((n455 _ (hx_ne hG0 hG427 (by decide))).trans gA440) hG0 (s := 30) rfl
            obtain ⟨x461, e462, a463, b464⟩ := hx_fi (k := 45) (lo := 0) (hi := 1) q460 rfl
            refine hx_gf (l := 149) rfl rfl rfl ((n455 _ (hx_ne hG0 hG427 (by decide))).trans gA440) e462 ?_
            refine hx_if_eq (l := 152) rfl rfl (fun h465 => ?_) (fun h465 => ?_)
            · -- 163
              refine hx_k (l := 164) (m := 0) rfl rfl (by decide) (fun z466 h467 => ?_)
              refine hx_pf (q := (0, 0, 0, 0, 0, 1)) (s := 30) (l := 167) (v := .int z466) rfl rfl rfl (by decide) rfl rfl rfl hw456 hG0 ((n455 _ (hx_ne hG0 hG427 (by decide))).trans gA440) ⟨hx_01 (by omega) (by omega), trivial⟩ (hx_ti (G := G) (lo := 0) (hi := 1) (by omega) (by omega)) (fun w468 fs469 g470 e471 o472 n473 hw474 n475 => ?_)
              have hs476 := ty_same_tr hs458 (n475 fz (hx_ok hfz (by decide)))
              have hf477 := hFF _ _ (n475 pr_ (by decide)) hf459
              exact ct167 w468 nn kk gN437 hw474 hf477 hs476 ⟨_, g470, ((o472 22 (by decide)).trans iB442)⟩ ⟨_, g470, ((o472 2 (by decide)).trans iA441)⟩ ⟨_, g470, ((o472 23 (by decide)).trans iC443)⟩ ⟨_, g470, ((o472 25 (by decide)).trans iD444)⟩ ((n473 _ (hx_ne hG_pk hG0 (by decide))).trans ((n455 _ (hx_ne hG_pk hG427 (by decide))).trans gK445)) (by omega) (by omega) (by omega) (by omega) (by omega) (Or.inl ⟨by omega, by omega⟩)
            · -- 152
              refine ax_go 1 (y := (153, [some (.ref o), some (.int e), some (.int lv), some (.int nn), some (.int kk)], [.ref o, .ref o], w450, 0, 0)) rfl trivial ?_
              obtain ⟨x478, e479, a480, b481⟩ := hx_fi (k := 24) (lo := 0) (hi := 1) q460 rfl
              refine hx_gf (l := 156) rfl rfl rfl ((n455 _ (hx_ne hG0 hG427 (by decide))).trans gA440) e479 ?_
              refine hx_if_ne (l := 159) rfl rfl (fun h482 => ?_) (fun h482 => ?_)
              · -- 163
                refine hx_k (l := 164) (m := 0) rfl rfl (by decide) (fun z483 h484 => ?_)
                refine hx_pf (q := (0, 0, 0, 0, 0, 1)) (s := 30) (l := 167) (v := .int z483) rfl rfl rfl (by decide) rfl rfl rfl hw456 hG0 ((n455 _ (hx_ne hG0 hG427 (by decide))).trans gA440) ⟨hx_01 (by omega) (by omega), trivial⟩ (hx_ti (G := G) (lo := 0) (hi := 1) (by omega) (by omega)) (fun w485 fs486 g487 e488 o489 n490 hw491 n492 => ?_)
                have hs493 := ty_same_tr hs458 (n492 fz (hx_ok hfz (by decide)))
                have hf494 := hFF _ _ (n492 pr_ (by decide)) hf459
                exact ct167 w485 nn kk gN437 hw491 hf494 hs493 ⟨_, g487, ((o489 22 (by decide)).trans iB442)⟩ ⟨_, g487, ((o489 2 (by decide)).trans iA441)⟩ ⟨_, g487, ((o489 23 (by decide)).trans iC443)⟩ ⟨_, g487, ((o489 25 (by decide)).trans iD444)⟩ ((n490 _ (hx_ne hG_pk hG0 (by decide))).trans ((n455 _ (hx_ne hG_pk hG427 (by decide))).trans gK445)) (by omega) (by omega) (by omega) (by omega) (by omega) (Or.inl ⟨by omega, by omega⟩)
              · -- 159
                refine hx_k (l := 160) (m := 1) rfl rfl (by decide) (fun z495 h496 => ?_)
                refine ax_go 1 (y := (164, [some (.ref o), some (.int e), some (.int lv), some (.int nn), some (.int kk)], [.int z495, .ref o], w450, 0, 0)) rfl trivial ?_
                refine hx_pf (q := (0, 0, 0, 0, 0, 1)) (s := 30) (l := 167) (v := .int z495) rfl rfl rfl (by decide) rfl rfl rfl hw456 hG0 ((n455 _ (hx_ne hG0 hG427 (by decide))).trans gA440) ⟨hx_01 (by omega) (by omega), trivial⟩ (hx_ti (G := G) (lo := 0) (hi := 1) (by omega) (by omega)) (fun w497 fs498 g499 e500 o501 n502 hw503 n504 => ?_)
                have hs505 := ty_same_tr hs458 (n504 fz (hx_ok hfz (by decide)))
                have hf506 := hFF _ _ (n504 pr_ (by decide)) hf459
                exact ct167 w497 nn kk gN437 hw503 hf506 hs505 ⟨_, g499, ((o501 22 (by decide)).trans iB442)⟩ ⟨_, g499, ((o501 2 (by decide)).trans iA441)⟩ ⟨_, g499, ((o501 23 (by decide)).trans iC443)⟩ ⟨_, g499, ((o501 25 (by decide)).trans iD444)⟩ ((n502 _ (hx_ne hG_pk hG0 (by decide))).trans ((n455 _ (hx_ne hG_pk hG427 (by decide))).trans gK445)) (by omega) (by omega) (by omega) (by omega) (by omega) (Or.inl ⟨by omega, by omega⟩)
          · -- case b
            have lt0 := gr_in2 hg0
            refine ax_go 1 (y := (114, [some (.ref o), some (.int e), some (.int lv), some (.int nn), some (.int kk)], [.int kk], w342, 0, 0)) rfl trivial ?_
            refine hx_if_le (l := 117) rfl rfl (fun h507 => by omega) (fun h507 => ?_)
            refine ax_go 2 (y := (119, [some (.ref o), some (.int e), some (.int lv), some (.int nn), some (.int kk)], [.ref o, .ref o], w342, 0, 0)) rfl trivial ?_
            refine hx_gf (l := 122) rfl rfl rfl g357 e358 ?_
            refine hx_k (l := 123) (m := 1) rfl rfl (by decide) (fun z508 h509 => ?_)
            refine hx_add (l := 124) rfl rfl (fun z510 h511 => ?_)
            replace h511 := h511 (by omega) (by omega)
            refine hx_pf (q := (0, 0, 0, 0, (-2147483648), 2147483647)) (s := 30) (l := 127) (v := .int z510) rfl rfl rfl (by decide) rfl rfl rfl hw353 hG0 g357 trivial (ck_top_ok (G := G) z510) (fun w512 fs513 g514 e515 o516 n517 hw518 n519 => ?_)
            have hs520 := ty_same_tr hs355 (n519 fz (hx_ok hfz (by decide)))
            have hf521 := hFF _ _ (n519 pr_ (by decide)) hf354
            refine ax_go 1 (y := (128, [some (.ref o), some (.int e), some (.int lv), some (.int nn), some (.int kk)], [.ref o], w512, 0, 0)) rfl trivial ?_
            refine hx_k (l := 129) (m := 0) rfl rfl (by decide) (fun z522 h523 => ?_)
            refine hx_pf (q := (0, 0, 0, 0, 0, 1)) (s := 30) (l := 132) (v := .int z522) rfl rfl rfl (by decide) rfl rfl rfl hw518 hG0 g514 ⟨hx_01 (by omega) (by omega), trivial⟩ (hx_ti (G := G) (lo := 0) (hi := 1) (by omega) (by omega)) (fun w524 fs525 g526 e527 o528 n529 hw530 n531 => ?_)
            have hs532 := ty_same_tr hs520 (n531 fz (hx_ok hfz (by decide)))
            have hf533 := hFF _ _ (n531 pr_ (by decide)) hf521
            refine ax_go 1 (y := (133, [some (.ref o), some (.int e), some (.int lv), some (.int nn), some (.int kk)], [.ref o], w524, 0, 0)) rfl trivial ?_
            have q534 := hx_oq hw530 g526 hG0 (s := 30) rfl
            obtain ⟨p535, e536, hG537⟩ := hx_fr (k := 47) (s := 52) q534 rfl
            refine hx_gf (l := 136) rfl rfl rfl g526 e536 ?_
            refine ax_go 3 (y := (140, [some (.ref o), some (.int e), some (.int lv), some (.int nn), some (.int kk)], [.int lv, .ref o, .int kk, .ref p535], w524, 0, 0)) rfl trivial ?_
            refine hx_pj (l := 143) (as := [.ref o, .int lv]) rfl rfl (hx_iv (j := 175) (n := 1) (o := o) (r := [.int kk, .ref p535]) rfl rfl g526 rfl) ((ev_all (fz := fz) hF (fun q hq => (by decide +kernel : ∀ q ∈ fb_hp_X9_goesAlong, q ∈ fb_ev) q (hfz q hq)) fn).2.2.1 8 pk f e io z510 yv (d + 65) ⟨by omega, by omega⟩ ⟨by omega, by omega⟩ (by rw [hio, show z510.toInt.toNat = gq.toInt.toNat + 1 by omega]; exact hg0) (by omega)) hw530 hf533 ⟨(hx_tr (G := G) (s := 30) (b := 0) hG0 (by decide)), (hx_ti (G := G) (lo := 0) (hi := 1) (by omega) (by omega)), trivial⟩ (fun o1 l1 h1 => by cases h1; exact ⟨_, g526, ((o528 2 (by decide)).trans ((o516 2 (by decide)).trans e366)), ((o528 22 (by decide)).trans e515), ((o528 23 (by decide)).trans ((o516 23 (by decide)).trans e369)), ((o528 25 (by decide)).trans ((o516 25 (by decide)).trans e372)), ((n529 _ (hx_ne hG_pk hG0 (by decide))).trans ((n517 _ (hx_ne hG_pk hG0 (by decide))).trans g347))⟩) (fun w538 z543 hw539 hf540 m541 a544 b545 u546 => ?_)
            have hs542 := ty_same_tr hs532 m541
            obtain ⟨gN547, hN548, fsN549, gA550, iA551, iB552, iC553, iD554, gK555⟩ := u546 _ _ rfl
            have le556 := gr_le hg0 (by omega)
            obtain ⟨f557, g558⟩ := hx_lrow hw539 hG537 (s := 52) (n := 2) rfl (by decide)
            refine hx_ls (s := 52) (l := 144) rfl rfl rfl hw539 hG537 g558 (by omega) (by omega) (fun w560 f561 g562 n565 hw566 n567 => ?_)
            have hs568 := ty_same_tr hs542 (n567 fz (hx_ok hfz (by decide)))
            have hf569 := hFF _ _ (n567 pr_ (by decide)) hf540
            refine ax_go 2 (y := (146, [some (.ref o), some (.int e), some (.int lv), some (.int nn), some (.int kk)], [.ref o, .ref o], w560, 0, 0)) rfl trivial ?_
            have q570 := hx_oq hw566 ((n565 _ (hx_ne hG0 hG537 (by decide))).trans gA550) hG0 (s := 30) rfl
            obtain ⟨x571, e572, a573, b574⟩ := hx_fi (k := 45) (lo := 0) (hi := 1) q570 rfl
            refine hx_gf (l := 149) rfl rfl rfl ((n565 _ (hx_ne hG0 hG537 (by decide))).trans gA550) e572 ?_
            refine hx_if_eq (l := 152) rfl rfl (fun h575 => ?_) (fun h575 => ?_)
            · -- 163
              refine hx_k (l := 164) (m := 0) rfl rfl (by decide) (fun z576 h577 => ?_)
              refine hx_pf (q := (0, 0, 0, 0, 0, 1)) (s := 30) (l := 167) (v := .int z576) rfl rfl rfl (by decide) rfl rfl rfl hw566 hG0 ((n565 _ (hx_ne hG0 hG537 (by decide))).trans gA550) ⟨hx_01 (by omega) (by omega), trivial⟩ (hx_ti (G := G) (lo := 0) (hi := 1) (by omega) (by omega)) (fun w578 fs579 g580 e581 o582 n583 hw584 n585 => ?_)
              have hs586 := ty_same_tr hs568 (n585 fz (hx_ok hfz (by decide)))
              have hf587 := hFF _ _ (n585 pr_ (by decide)) hf569
              exact ct167 w578 nn kk gN547 hw584 hf587 hs586 ⟨_, g580, ((o582 22 (by decide)).trans iB552)⟩ ⟨_, g580, ((o582 2 (by decide)).trans iA551)⟩ ⟨_, g580, ((o582 23 (by decide)).trans iC553)⟩ ⟨_, g580, ((o582 25 (by decide)).trans iD554)⟩ ((n583 _ (hx_ne hG_pk hG0 (by decide))).trans ((n565 _ (hx_ne hG_pk hG537 (by decide))).trans gK555)) (by omega) (by omega) (by omega) (by omega) (by omega) (Or.inl ⟨by omega, by omega⟩)
            · -- 152
              refine ax_go 1 (y := (153, [some (.ref o), some (.int e), some (.int lv), some (.int nn), some (.int kk)], [.ref o, .ref o], w560, 0, 0)) rfl trivial ?_
              obtain ⟨x588, e589, a590, b591⟩ := hx_fi (k := 24) (lo := 0) (hi := 1) q570 rfl
              refine hx_gf (l := 156) rfl rfl rfl ((n565 _ (hx_ne hG0 hG537 (by decide))).trans gA550) e589 ?_
              refine hx_if_ne (l := 159) rfl rfl (fun h592 => ?_) (fun h592 => ?_)
              · -- 163
                refine hx_k (l := 164) (m := 0) rfl rfl (by decide) (fun z593 h594 => ?_)
                refine hx_pf (q := (0, 0, 0, 0, 0, 1)) (s := 30) (l := 167) (v := .int z593) rfl rfl rfl (by decide) rfl rfl rfl hw566 hG0 ((n565 _ (hx_ne hG0 hG537 (by decide))).trans gA550) ⟨hx_01 (by omega) (by omega), trivial⟩ (hx_ti (G := G) (lo := 0) (hi := 1) (by omega) (by omega)) (fun w595 fs596 g597 e598 o599 n600 hw601 n602 => ?_)
                have hs603 := ty_same_tr hs568 (n602 fz (hx_ok hfz (by decide)))
                have hf604 := hFF _ _ (n602 pr_ (by decide)) hf569
                exact ct167 w595 nn kk gN547 hw601 hf604 hs603 ⟨_, g597, ((o599 22 (by decide)).trans iB552)⟩ ⟨_, g597, ((o599 2 (by decide)).trans iA551)⟩ ⟨_, g597, ((o599 23 (by decide)).trans iC553)⟩ ⟨_, g597, ((o599 25 (by decide)).trans iD554)⟩ ((n600 _ (hx_ne hG_pk hG0 (by decide))).trans ((n565 _ (hx_ne hG_pk hG537 (by decide))).trans gK555)) (by omega) (by omega) (by omega) (by omega) (by omega) (Or.inl ⟨by omega, by omega⟩)
              · -- 159
                refine hx_k (l := 160) (m := 1) rfl rfl (by decide) (fun z605 h606 => ?_)
                refine ax_go 1 (y := (164, [some (.ref o), some (.int e), some (.int lv), some (.int nn), some (.int kk)], [.int z605, .ref o], w560, 0, 0)) rfl trivial ?_
                refine hx_pf (q := (0, 0, 0, 0, 0, 1)) (s := 30) (l := 167) (v := .int z605) rfl rfl rfl (by decide) rfl rfl rfl hw566 hG0 ((n565 _ (hx_ne hG0 hG537 (by decide))).trans gA550) ⟨hx_01 (by omega) (by omega), trivial⟩ (hx_ti (G := G) (lo := 0) (hi := 1) (by omega) (by omega)) (fun w607 fs608 g609 e610 o611 n612 hw613 n614 => ?_)
                have hs615 := ty_same_tr hs568 (n614 fz (hx_ok hfz (by decide)))
                have hf616 := hFF _ _ (n614 pr_ (by decide)) hf569
                exact ct167 w607 nn kk gN547 hw613 hf616 hs615 ⟨_, g609, ((o611 22 (by decide)).trans iB552)⟩ ⟨_, g609, ((o611 2 (by decide)).trans iA551)⟩ ⟨_, g609, ((o611 23 (by decide)).trans iC553)⟩ ⟨_, g609, ((o611 25 (by decide)).trans iD554)⟩ ((n612 _ (hx_ne hG_pk hG0 (by decide))).trans ((n565 _ (hx_ne hG_pk hG537 (by decide))).trans gK555)) (by omega) (by omega) (by omega) (by omega) (by omega) (Or.inl ⟨by omega, by omega⟩)
          · -- case c
            have lt0 := gr_in2 hg0
            refine ax_go 1 (y := (114, [some (.ref o), some (.int e), some (.int lv), some (.int nn), some (.int kk)], [.int kk], w342, 0, 0)) rfl trivial ?_
            refine hx_if_le (l := 117) rfl rfl (fun h617 => ?_) (fun h617 => by omega)
            refine ax_go 1 (y := (128, [some (.ref o), some (.int e), some (.int lv), some (.int nn), some (.int kk)], [.ref o], w342, 0, 0)) rfl trivial ?_
            refine hx_k (l := 129) (m := 0) rfl rfl (by decide) (fun z618 h619 => ?_)
            refine hx_pf (q := (0, 0, 0, 0, 0, 1)) (s := 30) (l := 132) (v := .int z618) rfl rfl rfl (by decide) rfl rfl rfl hw353 hG0 g357 ⟨hx_01 (by omega) (by omega), trivial⟩ (hx_ti (G := G) (lo := 0) (hi := 1) (by omega) (by omega)) (fun w620 fs621 g622 e623 o624 n625 hw626 n627 => ?_)
            have hs628 := ty_same_tr hs355 (n627 fz (hx_ok hfz (by decide)))
            have hf629 := hFF _ _ (n627 pr_ (by decide)) hf354
            refine ax_go 1 (y := (133, [some (.ref o), some (.int e), some (.int lv), some (.int nn), some (.int kk)], [.ref o], w620, 0, 0)) rfl trivial ?_
            have q630 := hx_oq hw626 g622 hG0 (s := 30) rfl
            obtain ⟨p631, e632, hG633⟩ := hx_fr (k := 47) (s := 52) q630 rfl
            refine hx_gf (l := 136) rfl rfl rfl g622 e632 ?_
            refine ax_go 3 (y := (140, [some (.ref o), some (.int e), some (.int lv), some (.int nn), some (.int kk)], [.int lv, .ref o, .int kk, .ref p631], w620, 0, 0)) rfl trivial ?_
            refine hx_pj (l := 143) (as := [.ref o, .int lv]) rfl rfl (hx_iv (j := 175) (n := 1) (o := o) (r := [.int kk, .ref p631]) rfl rfl g622 rfl) ((ev_all (fz := fz) hF (fun q hq => (by decide +kernel : ∀ q ∈ fb_hp_X9_goesAlong, q ∈ fb_ev) q (hfz q hq)) fn).2.2.1 8 pk f e io gq x1 (d + 65) ⟨by omega, by omega⟩ ⟨by omega, by omega⟩ (by rw [hio, show gq.toInt.toNat = gq.toInt.toNat by omega]; exact hg0) (by omega)) hw626 hf629 ⟨(hx_tr (G := G) (s := 30) (b := 0) hG0 (by decide)), (hx_ti (G := G) (lo := 0) (hi := 1) (by omega) (by omega)), trivial⟩ (fun o1 l1 h1 => by cases h1; exact ⟨_, g622, ((o624 2 (by decide)).trans e366), ((o624 22 (by decide)).trans e358), ((o624 23 (by decide)).trans e369), ((o624 25 (by decide)).trans e372), ((n625 _ (hx_ne hG_pk hG0 (by decide))).trans g347)⟩) (fun w634 z639 hw635 hf636 m637 a640 b641 u642 => ?_)
            have hs638 := ty_same_tr hs628 m637
            obtain ⟨gN643, hN644, fsN645, gA646, iA647, iB648, iC649, iD650, gK651⟩ := u642 _ _ rfl
            have le652 := gr_le hg0 (by omega)
            obtain ⟨f653, g654⟩ := hx_lrow hw635 hG633 (s := 52) (n := 2) rfl (by decide)
            refine hx_ls (s := 52) (l := 144) rfl rfl rfl hw635 hG633 g654 (by omega) (by omega) (fun w656 f657 g658 n661 hw662 n663 => ?_)
            have hs664 := ty_same_tr hs638 (n663 fz (hx_ok hfz (by decide)))
            have hf665 := hFF _ _ (n663 pr_ (by decide)) hf636
            refine ax_go 2 (y := (146, [some (.ref o), some (.int e), some (.int lv), some (.int nn), some (.int kk)], [.ref o, .ref o], w656, 0, 0)) rfl trivial ?_
            have q666 := hx_oq hw662 ((n661 _ (hx_ne hG0 hG633 (by decide))).trans gA646) hG0 (s := 30) rfl
            obtain ⟨x667, e668, a669, b670⟩ := hx_fi (k := 45) (lo := 0) (hi := 1) q666 rfl
            refine hx_gf (l := 149) rfl rfl rfl ((n661 _ (hx_ne hG0 hG633 (by decide))).trans gA646) e668 ?_
            refine hx_if_eq (l := 152) rfl rfl (fun h671 => ?_) (fun h671 => ?_)
            · -- 163
              refine hx_k (l := 164) (m := 0) rfl rfl (by decide) (fun z672 h673 => ?_)
              refine hx_pf (q := (0, 0, 0, 0, 0, 1)) (s := 30) (l := 167) (v := .int z672) rfl rfl rfl (by decide) rfl rfl rfl hw662 hG0 ((n661 _ (hx_ne hG0 hG633 (by decide))).trans gA646) ⟨hx_01 (by omega) (by omega), trivial⟩ (hx_ti (G := G) (lo := 0) (hi := 1) (by omega) (by omega)) (fun w674 fs675 g676 e677 o678 n679 hw680 n681 => ?_)
              have hs682 := ty_same_tr hs664 (n681 fz (hx_ok hfz (by decide)))
              have hf683 := hFF _ _ (n681 pr_ (by decide)) hf665
              exact ct167 w674 nn kk gN643 hw680 hf683 hs682 ⟨_, g676, ((o678 22 (by decide)).trans iB648)⟩ ⟨_, g676, ((o678 2 (by decide)).trans iA647)⟩ ⟨_, g676, ((o678 23 (by decide)).trans iC649)⟩ ⟨_, g676, ((o678 25 (by decide)).trans iD650)⟩ ((n679 _ (hx_ne hG_pk hG0 (by decide))).trans ((n661 _ (hx_ne hG_pk hG633 (by decide))).trans gK651)) (by omega) (by omega) (by omega) (by omega) (by omega) (Or.inr (Or.inr (Or.inl ⟨by omega, by omega, by rw [show gN643.toInt.toNat + 1 = x1 + 1 by omega]; exact hg1⟩)))
            · -- 152
              refine ax_go 1 (y := (153, [some (.ref o), some (.int e), some (.int lv), some (.int nn), some (.int kk)], [.ref o, .ref o], w656, 0, 0)) rfl trivial ?_
              obtain ⟨x684, e685, a686, b687⟩ := hx_fi (k := 24) (lo := 0) (hi := 1) q666 rfl
              refine hx_gf (l := 156) rfl rfl rfl ((n661 _ (hx_ne hG0 hG633 (by decide))).trans gA646) e685 ?_
              refine hx_if_ne (l := 159) rfl rfl (fun h688 => ?_) (fun h688 => ?_)
              · -- 163
                refine hx_k (l := 164) (m := 0) rfl rfl (by decide) (fun z689 h690 => ?_)
                refine hx_pf (q := (0, 0, 0, 0, 0, 1)) (s := 30) (l := 167) (v := .int z689) rfl rfl rfl (by decide) rfl rfl rfl hw662 hG0 ((n661 _ (hx_ne hG0 hG633 (by decide))).trans gA646) ⟨hx_01 (by omega) (by omega), trivial⟩ (hx_ti (G := G) (lo := 0) (hi := 1) (by omega) (by omega)) (fun w691 fs692 g693 e694 o695 n696 hw697 n698 => ?_)
                have hs699 := ty_same_tr hs664 (n698 fz (hx_ok hfz (by decide)))
                have hf700 := hFF _ _ (n698 pr_ (by decide)) hf665
                exact ct167 w691 nn kk gN643 hw697 hf700 hs699 ⟨_, g693, ((o695 22 (by decide)).trans iB648)⟩ ⟨_, g693, ((o695 2 (by decide)).trans iA647)⟩ ⟨_, g693, ((o695 23 (by decide)).trans iC649)⟩ ⟨_, g693, ((o695 25 (by decide)).trans iD650)⟩ ((n696 _ (hx_ne hG_pk hG0 (by decide))).trans ((n661 _ (hx_ne hG_pk hG633 (by decide))).trans gK651)) (by omega) (by omega) (by omega) (by omega) (by omega) (Or.inr (Or.inr (Or.inl ⟨by omega, by omega, by rw [show gN643.toInt.toNat + 1 = x1 + 1 by omega]; exact hg1⟩)))
              · -- 159
                refine hx_k (l := 160) (m := 1) rfl rfl (by decide) (fun z701 h702 => ?_)
                refine ax_go 1 (y := (164, [some (.ref o), some (.int e), some (.int lv), some (.int nn), some (.int kk)], [.int z701, .ref o], w656, 0, 0)) rfl trivial ?_
                refine hx_pf (q := (0, 0, 0, 0, 0, 1)) (s := 30) (l := 167) (v := .int z701) rfl rfl rfl (by decide) rfl rfl rfl hw662 hG0 ((n661 _ (hx_ne hG0 hG633 (by decide))).trans gA646) ⟨hx_01 (by omega) (by omega), trivial⟩ (hx_ti (G := G) (lo := 0) (hi := 1) (by omega) (by omega)) (fun w703 fs704 g705 e706 o707 n708 hw709 n710 => ?_)
                have hs711 := ty_same_tr hs664 (n710 fz (hx_ok hfz (by decide)))
                have hf712 := hFF _ _ (n710 pr_ (by decide)) hf665
                exact ct167 w703 nn kk gN643 hw709 hf712 hs711 ⟨_, g705, ((o707 22 (by decide)).trans iB648)⟩ ⟨_, g705, ((o707 2 (by decide)).trans iA647)⟩ ⟨_, g705, ((o707 23 (by decide)).trans iC649)⟩ ⟨_, g705, ((o707 25 (by decide)).trans iD650)⟩ ((n708 _ (hx_ne hG_pk hG0 (by decide))).trans ((n661 _ (hx_ne hG_pk hG633 (by decide))).trans gK651)) (by omega) (by omega) (by omega) (by omega) (by omega) (Or.inr (Or.inr (Or.inl ⟨by omega, by omega, by rw [show gN643.toInt.toNat + 1 = x1 + 1 by omega]; exact hg1⟩)))
    have ct2 : ∀ (nq : Nat) (w713 : ab_W) (p : Int32), ty_w sp_ G w713 → (F9 G F) w713 → ty_same G fz w w713 → (hx_has w713 o 9 2 (.ref pk)) → (hx_has w713 o 9 42 (.int a)) → (w713[pk]? = some (.inl (0, 5721, .inl f))) → (0 ≤ p.toInt) → (p.toInt ≤ 10) → (11 - p.toInt).toNat < nq → ab_wp ro (ab_Ev ro ab_codes (d + 65)) 9 false none ab_k_X9_goesAlong (fun o_1 => ∃ v w1, o_1 = (v, w1, 0, 0) ∧ ty_w sp_ G w1 ∧ (F9 G F) w1 ∧ ty_same G fz w w1 ∧ ck_res G none v ∧ (fun as _ _ w1 => ∀ (o : Nat) (e lv : Int32), as = [.ref o, .int e, .int lv] → ∃ g : Int32, hx_has w1 o 9 22 (.int g) ∧ g.toInt = (q : Int) + 1) ([.ref o, .int e, .int lv] : List Value) w v w1) (2, [some (.ref o), some (.int e), some (.int lv), some (.int p), none], [], w713, 0, 0) := by
      intro nq
      induction nq with
      | zero => intro w713 p hw719 hf720 hs721 hh714 hh715 g716 i717 i718 hm; exact absurd hm (Nat.not_lt_zero _)
      | succ nq ih2 =>
        intro w713 p hw719 hf720 hs721 hh714 hh715 g716 i717 i718 hm2
        obtain ⟨fs722, g723, e724⟩ := hh714
        obtain ⟨fs725, g726, e727⟩ := hh715
        obtain rfl : fs722 = fs725 := hx_inj g723 g726
        refine ax_go 2 (y := (4, [some (.ref o), some (.int e), some (.int lv), some (.int p), none], [.ref o, .int p], w713, 0, 0)) rfl trivial ?_
        refine hx_gf (l := 7) rfl rfl rfl g723 e724 ?_
        refine hx_k (l := 9) (m := 110) rfl rfl (by decide) (fun z728 h729 => ?_)
        have r730 := hx_rq hw719 g716 hG_pk (s := 32) rfl
        refine hx_il (l := 10) rfl rfl g716 (by omega) (by omega) (fun z731 h732 => ?_)
        have b733 := ((hf720.1.1 _ _ hG_pk g716).1 z728.toInt.toNat (by omega)).2.2.2.2.1 (by omega)
        rw [← h732] at b733
        refine hx_ic_ge (l := 13) rfl rfl (fun h734 => ?_) (fun h734 => ?_)
        · -- 30
          refine ax_go 1 (y := (31, [some (.ref o), some (.int e), some (.int lv), some (.int p), none], [.ref o], w713, 0, 0)) rfl trivial ?_
          refine hx_k (l := 32) (m := 1) rfl rfl (by decide) (fun z735 h736 => ?_)
          refine hx_pf (q := (0, 0, 0, 0, 0, 1)) (s := 30) (l := 35) (v := .int z735) rfl rfl rfl (by decide) rfl rfl rfl hw719 hG0 g723 ⟨hx_01 (by omega) (by omega), trivial⟩ (hx_ti (G := G) (lo := 0) (hi := 1) (by omega) (by omega)) (fun w737 fs738 g739 e740 o741 n742 hw743 n744 => ?_)
          have hs745 := ty_same_tr hs721 (n744 fz (hx_ok hfz (by decide)))
          have hf746 := hFF _ _ (n744 pr_ (by decide)) hf720
          refine ax_go 2 (y := (37, [some (.ref o), some (.int e), some (.int lv), some (.int p), none], [.int e, .ref o], w737, 0, 0)) rfl trivial ?_
          refine hx_pf (q := (0, 0, 0, 0, (-2147483648), 2147483647)) (s := 30) (l := 40) (v := .int e) rfl rfl rfl (by decide) rfl rfl rfl hw743 hG0 g739 trivial (ck_top_ok (G := G) e) (fun w747 fs748 g749 e750 o751 n752 hw753 n754 => ?_)
          have hs755 := ty_same_tr hs745 (n754 fz (hx_ok hfz (by decide)))
          have hf756 := hFF _ _ (n754 pr_ (by decide)) hf746
          refine ax_go 2 (y := (42, [some (.ref o), some (.int e), some (.int lv), some (.int p), none], [.ref o, .ref o], w747, 0, 0)) rfl trivial ?_
          refine hx_gf (l := 45) rfl rfl rfl g749 ((o751 42 (by decide)).trans ((o741 42 (by decide)).trans e727)) ?_
          refine hx_pf (q := (0, 0, 0, 0, (-2147483648), 2147483647)) (s := 30) (l := 48) (v := .int a) rfl rfl rfl (by decide) rfl rfl rfl hw753 hG0 g749 trivial (ck_top_ok (G := G) a) (fun w757 fs758 g759 e760 o761 n762 hw763 n764 => ?_)
          have hs765 := ty_same_tr hs755 (n764 fz (hx_ok hfz (by decide)))
          have hf766 := hFF _ _ (n764 pr_ (by decide)) hf756
          refine ax_go 3 (y := (51, [some (.ref o), some (.int e), some (.int lv), some (.int p), none], [.ref o, .ref o, .ref o], w757, 0, 0)) rfl trivial ?_
          refine hx_gf (l := 54) rfl rfl rfl g759 e760 ?_
          refine hx_pi (l := 57) (as := [.ref o, .int a]) rfl rfl (hx_iv (j := 172) (n := 1) (o := o) (r := [.ref o]) rfl rfl g759 rfl) (hp_X9_codeAt (fz := fz) hF (fun q hq => (by decide +kernel : ∀ q ∈ fb_hp_X9_goesAlong, q ∈ fb_hp_X9_codeAt) q (hfz q hq)) (d + 64)) hw763 hf766 ⟨(hx_tr (G := G) (s := 30) (b := 0) hG0 (by decide)), (ck_top_ok (G := G) a), trivial⟩ (fun y0 y1 y2 h1 h2 => by cases h1; obtain ⟨fs1, g1, e1⟩ := h2; obtain rfl := hx_inj g759 g1; obtain rfl := hx_inji ((o761 23 (by decide)).trans e750) e1; exact ⟨by omega, by omega⟩) (fun w767 z772 hw768 hf769 m770 a773 b774 u775 => ?_)
          rw [u775.1]
          have u776 := u775.2 _ _ _ _ _ _ rfl ⟨_, g759, ((o761 2 (by decide)).trans ((o751 2 (by decide)).trans ((o741 2 (by decide)).trans e724)))⟩ ((n762 _ (hx_ne hG_pk hG0 (by decide))).trans ((n752 _ (hx_ne hG_pk hG0 (by decide))).trans ((n742 _ (hx_ne hG_pk hG0 (by decide))).trans g716))) ⟨_, g759, ((o761 23 (by decide)).trans e750)⟩ rfl
          clear u775
          refine hx_pf (q := (0, 0, 0, 0, (-2147483648), 2147483647)) (s := 30) (l := 60) (v := .int z772) rfl rfl rfl (by decide) rfl rfl rfl hw763 hG0 g759 trivial (ck_top_ok (G := G) z772) (fun w777 fs778 g779 e780 o781 n782 hw783 n784 => ?_)
          have hs785 := ty_same_tr hs765 (n784 fz (hx_ok hfz (by decide)))
          have hf786 := hFF _ _ (n784 pr_ (by decide)) hf766
          refine ax_go 2 (y := (62, [some (.ref o), some (.int e), some (.int lv), some (.int p), none], [.ref o, .ref o], w777, 0, 0)) rfl trivial ?_
          refine hx_gf (l := 65) rfl rfl rfl g779 ((o781 22 (by decide)).trans e760) ?_
          refine hx_k (l := 66) (m := 1) rfl rfl (by decide) (fun z787 h788 => ?_)
          refine hx_add (l := 67) rfl rfl (fun z789 h790 => ?_)
          replace h790 := h790 (by omega) (by omega)
          refine hx_pf (q := (0, 0, 0, 0, (-2147483648), 2147483647)) (s := 30) (l := 70) (v := .int z789) rfl rfl rfl (by decide) rfl rfl rfl hw783 hG0 g779 trivial (ck_top_ok (G := G) z789) (fun w791 fs792 g793 e794 o795 n796 hw797 n798 => ?_)
          have hs799 := ty_same_tr hs785 (n798 fz (hx_ok hfz (by decide)))
          have hf800 := hFF _ _ (n798 pr_ (by decide)) hf786
          refine ax_go 1 (y := (71, [some (.ref o), some (.int e), some (.int lv), some (.int p), none], [.ref o], w791, 0, 0)) rfl trivial ?_
          refine hx_k (l := 72) (m := 1) rfl rfl (by decide) (fun z801 h802 => ?_)
          refine hx_pf (q := (0, 0, 0, 0, 0, 1)) (s := 30) (l := 75) (v := .int z801) rfl rfl rfl (by decide) rfl rfl rfl hw797 hG0 g793 ⟨hx_01 (by omega) (by omega), trivial⟩ (hx_ti (G := G) (lo := 0) (hi := 1) (by omega) (by omega)) (fun w803 fs804 g805 e806 o807 n808 hw809 n810 => ?_)
          have hs811 := ty_same_tr hs799 (n810 fz (hx_ok hfz (by decide)))
          have hf812 := hFF _ _ (n810 pr_ (by decide)) hf800
          refine ax_go 1 (y := (76, [some (.ref o), some (.int e), some (.int lv), some (.int p), none], [.ref o], w803, 0, 0)) rfl trivial ?_
          refine hx_gf (l := 79) rfl rfl rfl g805 ((o807 44 (by decide)).trans ((o795 44 (by decide)).trans e780)) ?_
          refine hx_k (l := 81) (m := 22) rfl rfl (by decide) (fun z813 h814 => ?_)
          refine hx_ic_ne (l := 84) rfl rfl (fun h815 => ?_) (fun h815 => ?_)
          · -- 88
            refine ax_go 1 (y := (89, [some (.ref o), some (.int e), some (.int lv), some (.int p), none], [.ref o], w803, 0, 0)) rfl trivial ?_
            refine hx_gf (l := 92) rfl rfl rfl g805 ((o807 44 (by decide)).trans ((o795 44 (by decide)).trans e780)) ?_
            refine hx_k (l := 94) (m := 21) rfl rfl (by decide) (fun z816 h817 => ?_)
            refine hx_ic_ne (l := 97) rfl rfl (fun h818 => ?_) (fun h818 => ?_)
            · -- 101
              refine hx_k (l := 102) (m := 2) rfl rfl (by decide) (fun z819 h820 => ?_)
              refine ax_go 1 (y := (103, [some (.ref o), some (.int e), some (.int lv), some (.int z819), none], [], w803, 0, 0)) rfl trivial ?_
              refine hx_k (l := 104) (m := 0) rfl rfl (by decide) (fun z821 h822 => ?_)
              refine ax_go 1 (y := (106, [some (.ref o), some (.int e), some (.int lv), some (.int z819), some (.int z821)], [], w803, 0, 0)) rfl trivial ?_
              exact ct106 _ w803 z819 z821 z789 z735 hw809 hf812 hs811 ⟨_, g805, ((o807 22 (by decide)).trans e794)⟩ ⟨_, g805, ((o807 2 (by decide)).trans ((o795 2 (by decide)).trans ((o781 2 (by decide)).trans ((o761 2 (by decide)).trans ((o751 2 (by decide)).trans ((o741 2 (by decide)).trans e724))))))⟩ ⟨_, g805, ((o807 23 (by decide)).trans ((o795 23 (by decide)).trans ((o781 23 (by decide)).trans ((o761 23 (by decide)).trans e750))))⟩ ⟨_, g805, ((o807 25 (by decide)).trans ((o795 25 (by decide)).trans ((o781 25 (by decide)).trans ((o761 25 (by decide)).trans ((o751 25 (by decide)).trans e740)))))⟩ ((n808 _ (hx_ne hG_pk hG0 (by decide))).trans ((n796 _ (hx_ne hG_pk hG0 (by decide))).trans ((n782 _ (hx_ne hG_pk hG0 (by decide))).trans ((n762 _ (hx_ne hG_pk hG0 (by decide))).trans ((n752 _ (hx_ne hG_pk hG0 (by decide))).trans ((n742 _ (hx_ne hG_pk hG0 (by decide))).trans g716)))))) (by omega) (by omega) (by omega) (by omega) (by omega) (Or.inr (Or.inr (Or.inr ⟨by omega, by omega, by rw [show z789.toInt.toNat = a.toInt.toNat + 1 by omega]; exact ((hA.resolve_left (fun zz => by omega)).resolve_left (fun zz => by omega)).2.2⟩))) (Nat.lt_succ_self _)
            · -- 97
              refine hx_k (l := 98) (m := 1) rfl rfl (by decide) (fun z823 h824 => ?_)
              refine ax_go 2 (y := (103, [some (.ref o), some (.int e), some (.int lv), some (.int z823), none], [], w803, 0, 0)) rfl trivial ?_
              refine hx_k (l := 104) (m := 0) rfl rfl (by decide) (fun z825 h826 => ?_)
              refine ax_go 1 (y := (106, [some (.ref o), some (.int e), some (.int lv), some (.int z823), some (.int z825)], [], w803, 0, 0)) rfl trivial ?_
              exact ct106 _ w803 z823 z825 z789 z735 hw809 hf812 hs811 ⟨_, g805, ((o807 22 (by decide)).trans e794)⟩ ⟨_, g805, ((o807 2 (by decide)).trans ((o795 2 (by decide)).trans ((o781 2 (by decide)).trans ((o761 2 (by decide)).trans ((o751 2 (by decide)).trans ((o741 2 (by decide)).trans e724))))))⟩ ⟨_, g805, ((o807 23 (by decide)).trans ((o795 23 (by decide)).trans ((o781 23 (by decide)).trans ((o761 23 (by decide)).trans e750))))⟩ ⟨_, g805, ((o807 25 (by decide)).trans ((o795 25 (by decide)).trans ((o781 25 (by decide)).trans ((o761 25 (by decide)).trans ((o751 25 (by decide)).trans e740)))))⟩ ((n808 _ (hx_ne hG_pk hG0 (by decide))).trans ((n796 _ (hx_ne hG_pk hG0 (by decide))).trans ((n782 _ (hx_ne hG_pk hG0 (by decide))).trans ((n762 _ (hx_ne hG_pk hG0 (by decide))).trans ((n752 _ (hx_ne hG_pk hG0 (by decide))).trans ((n742 _ (hx_ne hG_pk hG0 (by decide))).trans g716)))))) (by omega) (by omega) (by omega) (by omega) (by omega) (Or.inr (Or.inl ⟨by omega, by omega, by rw [show z789.toInt.toNat = a.toInt.toNat + 1 by omega]; exact ((hA.resolve_left (fun zz => by omega)).resolve_right (fun zz => by omega)).2⟩)) (Nat.lt_succ_self _)
          · -- 84
            refine hx_k (l := 85) (m := 0) rfl rfl (by decide) (fun z827 h828 => ?_)
            refine ax_go 2 (y := (103, [some (.ref o), some (.int e), some (.int lv), some (.int z827), none], [], w803, 0, 0)) rfl trivial ?_
            refine hx_k (l := 104) (m := 0) rfl rfl (by decide) (fun z829 h830 => ?_)
            refine ax_go 1 (y := (106, [some (.ref o), some (.int e), some (.int lv), some (.int z827), some (.int z829)], [], w803, 0, 0)) rfl trivial ?_
            exact ct106 _ w803 z827 z829 z789 z735 hw809 hf812 hs811 ⟨_, g805, ((o807 22 (by decide)).trans e794)⟩ ⟨_, g805, ((o807 2 (by decide)).trans ((o795 2 (by decide)).trans ((o781 2 (by decide)).trans ((o761 2 (by decide)).trans ((o751 2 (by decide)).trans ((o741 2 (by decide)).trans e724))))))⟩ ⟨_, g805, ((o807 23 (by decide)).trans ((o795 23 (by decide)).trans ((o781 23 (by decide)).trans ((o761 23 (by decide)).trans e750))))⟩ ⟨_, g805, ((o807 25 (by decide)).trans ((o795 25 (by decide)).trans ((o781 25 (by decide)).trans ((o761 25 (by decide)).trans ((o751 25 (by decide)).trans e740)))))⟩ ((n808 _ (hx_ne hG_pk hG0 (by decide))).trans ((n796 _ (hx_ne hG_pk hG0 (by decide))).trans ((n782 _ (hx_ne hG_pk hG0 (by decide))).trans ((n762 _ (hx_ne hG_pk hG0 (by decide))).trans ((n752 _ (hx_ne hG_pk hG0 (by decide))).trans ((n742 _ (hx_ne hG_pk hG0 (by decide))).trans g716)))))) (by omega) (by omega) (by omega) (by omega) (by omega) (Or.inl ⟨by omega, by have := hA.resolve_right (fun zz => by rcases zz with zz | zz <;> omega); omega⟩) (Nat.lt_succ_self _)
        · -- 13
          refine ax_go 1 (y := (14, [some (.ref o), some (.int e), some (.int lv), some (.int p), none], [.ref o], w713, 0, 0)) rfl trivial ?_
          have q831 := hx_oq hw719 g723 hG0 (s := 30) rfl
          obtain ⟨p832, e833, hG834⟩ := hx_fr (k := 29) (s := 43) q831 rfl
          refine hx_gf (l := 17) rfl rfl rfl g723 e833 ?_
          refine ax_go 3 (y := (20, [some (.ref o), some (.int e), some (.int lv), some (.int p), none], [.int p, .ref o, .int p, .ref p832], w713, 0, 0)) rfl trivial ?_
          refine hx_pi (l := 23) (as := [.ref o, .int p]) rfl rfl (hx_iv (j := 185) (n := 1) (o := o) (r := [.int p, .ref p832]) rfl rfl g723 rfl) (hp_X9_overOf (fz := ([(32, 999), (30, 2), (30, 42)] ++ fz)) hF (hx_app (by decide +kernel) (fun q hq => (by decide +kernel : ∀ q ∈ fb_hp_X9_goesAlong, q ∈ fb_hp_X9_overOf) q (hfz q hq))) (d + 1)) hw719 hf720 ⟨(hx_tr (G := G) (s := 30) (b := 0) hG0 (by decide)), (hx_ti (G := G) (lo := 0) (hi := 9) (by omega) (by omega)), trivial⟩ trivial (fun w835 z840 hw836 hf837 m838 a841 b842 u843 => ?_)
          have hs839 := ty_same_tr hs721 (hx_sapp m838)
          obtain ⟨fs844, g845, -, q846⟩ := hx_obj hw836 hG0 (s := 30) rfl (by decide)
          replace u843 := u843 _ _ _ _ _ rfl ⟨_, g723, e724⟩ g716 rfl
          obtain ⟨f847, g848, r849⟩ := hx_row hw836 hG834 (s := 43) (kd := 0) (n := 10) rfl (by decide)
          refine hx_is (s := 43) (l := 24) rfl rfl rfl hw836 hG834 g848 (by omega) (by omega) hx_sg0 (fun w850 f851 g852 e853 o854 n855 hw856 n857 => ?_)
          have hs858 := ty_same_tr hs839 (n857 fz (hx_ok hfz (by decide)))
          have hf859 := hFF _ _ (n857 pr_ (by decide)) hf837
          refine hx_iinc (x := p) (n := 1) (l := 27) rfl rfl rfl (Nat.le_of_ble_eq_true rfl) (by omega) (by omega) (by decide) (fun z860 h861 => ?_)
          change ab_wp ro (ab_Ev ro ab_codes (d + 65)) 9 false none ab_k_X9_goesAlong (fun o_1 => ∃ v w1, o_1 = (v, w1, 0, 0) ∧ ty_w sp_ G w1 ∧ (F9 G F) w1 ∧ ty_same G fz w w1 ∧ ck_res G none v ∧ (fun as _ _ w1 => ∀ (o : Nat) (e lv : Int32), as = [.ref o, .int e, .int lv] → ∃ g : Int32, hx_has w1 o 9 22 (.int g) ∧ g.toInt = (q : Int) + 1) ([.ref o, .int e, .int lv] : List Value) w v w1) (27, [some (.ref o), some (.int e), some (.int lv), some (.int z860), none], [], w850, 0, 0)
          refine ax_go 1 (y := (2, [some (.ref o), some (.int e), some (.int lv), some (.int z860), none], [], w850, 0, 0)) rfl trivial ?_
          exact ih2 w850 z860 hw856 hf859 hs858 ⟨_, ((n855 _ (hx_ne hG0 hG834 (by decide))).trans g845), ((hx_kf m838 (hx_mem hG0 (by decide)) g723 g845).trans e724)⟩ ⟨_, ((n855 _ (hx_ne hG0 hG834 (by decide))).trans g845), ((hx_kf m838 (hx_mem hG0 (by decide)) g723 g845).trans e727)⟩ ((n855 _ (hx_ne hG_pk hG834 (by decide))).trans ((hx_kr m838 (hx_mem hG_pk (by decide))).trans g716)) (by omega) (by omega) (by omega)
    change ab_wp ro (ab_Ev ro ab_codes (d + 65)) 9 false none ab_k_X9_goesAlong (fun o_1 => ∃ v w1, o_1 = (v, w1, 0, 0) ∧ ty_w sp_ G w1 ∧ (F9 G F) w1 ∧ ty_same G fz w w1 ∧ ck_res G none v ∧ (fun as _ _ w1 => ∀ (o : Nat) (e lv : Int32), as = [.ref o, .int e, .int lv] → ∃ g : Int32, hx_has w1 o 9 22 (.int g) ∧ g.toInt = (q : Int) + 1) ([.ref o, .int e, .int lv] : List Value) w v w1) (0, [some (.ref o), some (.int e), some (.int lv), none, none], [], w, 0, 0)
    refine hx_k (l := 1) (m := 0) rfl rfl (by decide) (fun z862 h863 => ?_)
    refine ax_go 1 (y := (2, [some (.ref o), some (.int e), some (.int lv), some (.int z862), none], [], w, 0, 0)) rfl trivial ?_
    exact ct2 _ w z862 hw hf (ty_same_rf w) ⟨_, g0, i2⟩ ⟨_, g0, i42⟩ gk0 (by omega) (by omega) (Nat.lt_succ_self _)
def fb_X9_small : List (Nat × Nat) := [(8, 3), (8, 5), (19, 999), (32, 999), (33, 999), (34, 999), (35, 999), (44, 999), (45, 999), (1, 0), (18, 999), (2, 11), (2, 14), (1, 15), (54, 11), (4, 2), (7, 9), (30, 13), (30, 34), (30, 2), (30, 22), (30, 23), (30, 24), (30, 25), (46, 999), (47, 999), (30, 35), (30, 36), (7, 0), (24, 999), (37, 999), (30, 4), (30, 5), (30, 6), (30, 8), (30, 9), (30, 10), (30, 11), (30, 14), (30, 15), (30, 16), (30, 17), (30, 18), (30, 19), (30, 20), (30, 21), (39, 999), (40, 999), (41, 999), (30, 30), (30, 42), (30, 43), (30, 44), (1, 1), (1, 3), (1, 10), (1, 13), (8, 0), (30, 49), (2, 15), (8, 1)]
set_option maxHeartbeats 8000000 in
theorem h_X9_small {ro : ab_R} {G : Nat → Nat} {fz : List (Nat × Nat)} {F : ab_W → Prop} (hF : ∀ w w', smt G w w' → F w → F w') (hfz : ∀ q ∈ fz, q ∈ fb_X9_small) (d : Nat) : ck_ct ro sp_ G (F9 G F) fz (ab_Ev ro ab_codes (d + 1)) 231 [(1, (-9223372036854775808), 9223372036854775807)] (some (0, (-2147483648), 2147483647)) 0 0 := by
  have hFF := F9_same hF
  refine ck_hand (d := d + 0) (by decide) (fun as w hw hf has => ?_)
  match as, has with
  | [v0], ⟨h0, _⟩ =>
    obtain ⟨vq, rfl, hl0, hh0⟩ := ty_long h0 rfl
    refine ⟨rfl, ?_⟩
    change ab_wp ro (ab_Ev ro ab_codes d) 9 false (some .int) ab_k_X9_small (fun o_1 => ∃ v w1, o_1 = (v, w1, 0, 0) ∧ ty_w sp_ G w1 ∧ (F9 G F) w1 ∧ ty_same G fz w w1 ∧ ck_res G (some (0, (-2147483648), 2147483647)) v ∧ ck_wit 0 0 [.long vq] v) (0, [some (.long vq), none], [], w, 0, 0)
    refine ax_go 1 (y := (1, [some (.long vq), none], [.long vq], w, 0, 0)) rfl trivial ?_
    refine hx_lk (l := 4) (m := (-1000000)) rfl rfl (by decide) (fun z1 h2 => ?_)
    refine hx_lcmp (l := 5) rfl rfl (fun z3 h4 => ?_)
    refine hx_if_lt (l := 8) rfl rfl (fun h5 => ?_) (fun h5 => ?_)
    · -- 16
      refine hx_k (l := 18) (m := 1000000) rfl rfl (by decide) (fun z6 h7 => ?_)
      refine ax_go 1 (y := (23, [some (.long vq), none], [.int z6], w, 0, 0)) rfl trivial ?_
      exact ax_ret rfl rfl trivial ⟨some (.int z6), _, rfl, hw, hf, (ty_same_rf w), (ck_top_ok (G := G) z6), trivial⟩
    · -- 8
      refine ax_go 1 (y := (9, [some (.long vq), none], [.long vq], w, 0, 0)) rfl trivial ?_
      refine hx_lk (l := 12) (m := 1000000) rfl rfl (by decide) (fun z8 h9 => ?_)
      refine hx_lcmp (l := 13) rfl rfl (fun z10 h11 => ?_)
      refine hx_if_le (l := 16) rfl rfl (fun h12 => ?_) (fun h12 => ?_)
      · -- 21
        refine ax_go 1 (y := (22, [some (.long vq), none], [.long vq], w, 0, 0)) rfl trivial ?_
        refine hx_any (l := 23) rfl rfl (fun z13 => ?_)
        exact ax_ret rfl rfl trivial ⟨some (.int z13), _, rfl, hw, hf, (ty_same_rf w), (ck_top_ok (G := G) z13), trivial⟩
      · -- 16
        refine hx_k (l := 18) (m := 1000000) rfl rfl (by decide) (fun z14 h15 => ?_)
        refine ax_go 1 (y := (23, [some (.long vq), none], [.int z14], w, 0, 0)) rfl trivial ?_
        exact ax_ret rfl rfl trivial ⟨some (.int z14), _, rfl, hw, hf, (ty_same_rf w), (ck_top_ok (G := G) z14), trivial⟩
def fb_X9_obeys : List (Nat × Nat) := [(8, 3), (8, 5), (19, 999), (33, 999), (34, 999), (35, 999), (45, 999), (1, 0), (18, 999), (2, 11), (2, 14), (1, 15), (54, 11), (4, 2), (7, 9), (30, 13), (30, 2), (46, 999), (47, 999), (30, 35), (30, 36), (7, 0), (24, 999), (37, 999), (30, 4), (30, 5), (30, 6), (30, 8), (30, 9), (30, 10), (30, 11), (30, 14), (30, 15), (30, 16), (30, 17), (30, 18), (30, 19), (30, 20), (30, 21), (39, 999), (40, 999), (41, 999), (30, 30), (30, 42), (30, 43), (30, 44), (1, 1), (1, 3), (1, 10), (1, 13), (8, 0), (30, 49), (2, 15), (8, 1)]
set_option maxHeartbeats 8000000 in
theorem h_X9_obeys {ro : ab_R} {G : Nat → Nat} {fz : List (Nat × Nat)} {F : ab_W → Prop} (hF : ∀ w w', smt G w w' → F w → F w') (hfz : ∀ q ∈ fz, q ∈ fb_X9_obeys) (d : Nat) : ck_ct ro sp_ G (F9 G F) fz (ab_Ev ro ab_codes (d + 98)) 232 [(2, 30, 0)] (some (0, (-2147483648), 2147483647)) 0 0 := by
  have hFF := F9_same hF
  refine ck_hand (d := d + 97) (by decide) (fun as w hw hf has => ?_)
  match as, has with
  | [v0], ⟨h0, _⟩ =>
    obtain ⟨o, rfl, _, hG0⟩ := ty_refn h0 rfl rfl
    replace hG0 : G o = 30 := hG0
    refine ⟨rfl, ?_⟩
    change ab_wp ro (ab_Ev ro ab_codes (d + 97)) 9 false (some .int) ab_k_X9_obeys (fun o_1 => ∃ v w1, o_1 = (v, w1, 0, 0) ∧ ty_w sp_ G w1 ∧ (F9 G F) w1 ∧ ty_same G fz w w1 ∧ ck_res G (some (0, (-2147483648), 2147483647)) v ∧ ck_wit 0 0 [.ref o] v) (0, [some (.ref o), none, none, none], [], w, 0, 0)
    refine ax_go 1 (y := (1, [some (.ref o), none, none, none], [.ref o], w, 0, 0)) rfl trivial ?_
    obtain ⟨fs1, g2, -, q3⟩ := hx_obj hw hG0 (s := 30) rfl (by decide)
    obtain ⟨p4, e5, hG6⟩ := hx_fr (k := 47) (s := 52) q3 rfl
    refine hx_gf (l := 4) rfl rfl rfl g2 e5 ?_
    refine hx_k (l := 5) (m := 0) rfl rfl (by decide) (fun z7 h8 => ?_)
    obtain ⟨f9, g10⟩ := hx_lrow hw hG6 (s := 52) (n := 2) rfl (by decide)
    refine hx_ll (l := 6) rfl rfl g10 (by omega) (by omega) (fun z12 h13 => ?_)
    refine hx_ci (l := 9) (as := [.long z12]) rfl rfl rfl (h_X9_small (fz := fz) hF (fun q hq => (by decide +kernel : ∀ q ∈ fb_X9_obeys, q ∈ fb_X9_small) q (hfz q hq)) (d + 96)) hw hf ⟨(ck_ltop_ok (G := G) z12), trivial⟩ (fun w14 z19 hw15 hf16 m17 a20 b21 u22 => ?_)
    have hs18 := ty_same_tr (ty_same_rf w) m17
    refine ax_go 2 (y := (11, [some (.ref o), some (.int z19), none, none], [.ref o], w14, 0, 0)) rfl trivial ?_
    obtain ⟨fs23, g24, -, q25⟩ := hx_obj hw15 hG0 (s := 30) rfl (by decide)
    obtain ⟨p26, e27, hG28⟩ := hx_fr (k := 47) (s := 52) q25 rfl
    refine hx_gf (l := 14) rfl rfl rfl g24 e27 ?_
    refine hx_k (l := 15) (m := 1) rfl rfl (by decide) (fun z29 h30 => ?_)
    obtain ⟨f31, g32⟩ := hx_lrow hw15 hG28 (s := 52) (n := 2) rfl (by decide)
    refine hx_ll (l := 16) rfl rfl g32 (by omega) (by omega) (fun z34 h35 => ?_)
    refine hx_ci (l := 19) (as := [.long z34]) rfl rfl rfl (h_X9_small (fz := fz) hF (fun q hq => (by decide +kernel : ∀ q ∈ fb_X9_obeys, q ∈ fb_X9_small) q (hfz q hq)) (d + 96)) hw15 hf16 ⟨(ck_ltop_ok (G := G) z34), trivial⟩ (fun w36 z41 hw37 hf38 m39 a42 b43 u44 => ?_)
    have hs40 := ty_same_tr hs18 m39
    refine ax_go 2 (y := (21, [some (.ref o), some (.int z19), some (.int z41), none], [.ref o], w36, 0, 0)) rfl trivial ?_
    obtain ⟨fs45, g46, -, q47⟩ := hx_obj hw37 hG0 (s := 30) rfl (by decide)
    obtain ⟨x48, e49, a50, b51⟩ := hx_fi (k := 44) (lo := (-2147483648)) (hi := 2147483647) q47 rfl
    refine hx_gf (l := 24) rfl rfl rfl g46 e49 ?_
    by_cases h52 : x48.toInt = 22
    · -- case
      refine hx_tsq (l := 71) 0 rfl rfl (by decide) (by decide) rfl (by omega) (by omega) ?_
      refine ax_go 1 (y := (72, [some (.ref o), some (.int z19), some (.int z41), none], [.ref o], w36, 0, 0)) rfl trivial ?_
      refine hx_ci (l := 75) (as := [.ref o]) rfl rfl (hx_iv (j := 199) (n := 0) (o := o) (r := []) rfl rfl g46 rfl) (cc_X9_passesKept_0 (fz := fz) hFF (fun d => h_X9_keeps (fz := fz) hF (fun q hq => (by decide +kernel : ∀ q ∈ fb_X9_obeys, q ∈ fb_X9_keeps) q (hfz q hq)) d) (fun d => h_X9_dayPasses (fz := fz) hF (fun q hq => (by decide +kernel : ∀ q ∈ fb_X9_obeys, q ∈ fb_X9_dayPasses) q (hfz q hq)) d) (fun q hq => (by decide +kernel : ∀ q ∈ fb_X9_obeys, q ∈ fr_X9_passesKept_0) q (hfz q hq)) (d + 93)) hw37 hf38 ⟨(hx_tr (G := G) (s := 30) (b := 0) hG0 (by decide)), trivial⟩ (fun w53 z58 hw54 hf55 m56 a59 b60 u61 => ?_)
      have hs57 := ty_same_tr hs40 m56
      exact ax_ret rfl rfl trivial ⟨some (.int z58), _, rfl, hw54, hf55, hs57, (ck_top_ok (G := G) z58), trivial⟩
    by_cases h62 : x48.toInt = 23
    · -- case
      refine hx_tsq (l := 56) 1 rfl rfl (by decide) (by decide) rfl (by omega) (by omega) ?_
      refine ax_go 3 (y := (59, [some (.ref o), some (.int z19), some (.int z41), none], [.int z41, .int z19, .ref o], w36, 0, 0)) rfl trivial ?_
      refine hx_k (l := 60) (m := 1) rfl rfl (by decide) (fun z63 h64 => ?_)
      refine hx_ci (l := 63) (as := [.ref o, .int z19, .int z41, .int z63]) rfl rfl (hx_iv (j := 201) (n := 3) (o := o) (r := []) rfl rfl g46 rfl) (h_X9_lendsKept (fz := fz) hF (fun q hq => (by decide +kernel : ∀ q ∈ fb_X9_obeys, q ∈ fb_X9_lendsKept) q (hfz q hq)) (d + 94)) hw37 hf38 ⟨(hx_tr (G := G) (s := 30) (b := 0) hG0 (by decide)), (ck_top_ok (G := G) z19), (ck_top_ok (G := G) z41), (ck_top_ok (G := G) z63), trivial⟩ (fun w65 z70 hw66 hf67 m68 a71 b72 u73 => ?_)
      have hs69 := ty_same_tr hs40 m68
      exact ax_ret rfl rfl trivial ⟨some (.int z70), _, rfl, hw66, hf67, hs69, (ck_top_ok (G := G) z70), trivial⟩
    by_cases h74 : x48.toInt = 24
    · -- case
      refine hx_tsq (l := 76) 2 rfl rfl (by decide) (by decide) rfl (by omega) (by omega) ?_
      refine ax_go 2 (y := (78, [some (.ref o), some (.int z19), some (.int z41), none], [.int z19, .ref o], w36, 0, 0)) rfl trivial ?_
      refine hx_ci (l := 81) (as := [.ref o, .int z19]) rfl rfl (hx_iv (j := 198) (n := 1) (o := o) (r := []) rfl rfl g46 rfl) (cc_X9_reckonsKept_0 (fz := fz) hFF (fun d => h_X9_isParish (fz := fz) hF (fun q hq => (by decide +kernel : ∀ q ∈ fb_X9_obeys, q ∈ fb_X9_isParish) q (hfz q hq)) d) (fun d => h_X9_walkersOf (fz := fz) hF (fun q hq => (by decide +kernel : ∀ q ∈ fb_X9_obeys, q ∈ fb_hp_X9_walkersOf) q (hfz q hq)) (d + 27)) (fun d => h_X9_isBarred (fz := fz) hF (fun q hq => (by decide +kernel : ∀ q ∈ fb_X9_obeys, q ∈ fb_X9_isBarred) q (hfz q hq)) (d + 27)) (fun d => h_X9_keeps (fz := fz) hF (fun q hq => (by decide +kernel : ∀ q ∈ fb_X9_obeys, q ∈ fb_X9_keeps) q (hfz q hq)) d) (fun d => h_X9_reckons (fz := fz) hF (fun q hq => (by decide +kernel : ∀ q ∈ fb_X9_obeys, q ∈ fb_X9_reckons) q (hfz q hq)) (d + 24)) (fun q hq => (by decide +kernel : ∀ q ∈ fb_X9_obeys, q ∈ fr_X9_reckonsKept_0) q (hfz q hq)) (d + 2)) hw37 hf38 ⟨(hx_tr (G := G) (s := 30) (b := 0) hG0 (by decide)), (ck_top_ok (G := G) z19), trivial⟩ (fun w75 z80 hw76 hf77 m78 a81 b82 u83 => ?_)
      have hs79 := ty_same_tr hs40 m78
      refine ax_go 3 (y := (84, [some (.ref o), some (.int z19), some (.int z41), some (.int z80)], [.int z80, .ref o], w75, 0, 0)) rfl trivial ?_
      refine hx_if_ge (l := 87) rfl rfl (fun h84 => ?_) (fun h84 => ?_)
      · -- 94
        refine ax_go 1 (y := (95, [some (.ref o), some (.int z19), some (.int z41), some (.int z80)], [.int z80, .ref o], w75, 0, 0)) rfl trivial ?_
        obtain ⟨fs85, g86, -, q87⟩ := hx_obj hw76 hG0 (s := 30) rfl (by decide)
        refine hx_pf (q := (0, 0, 0, 0, (-2147483648), 2147483647)) (s := 30) (l := 98) (v := .int z80) rfl rfl rfl (by decide) rfl rfl rfl hw76 hG0 g86 trivial (ck_top_ok (G := G) z80) (fun w88 fs89 g90 e91 o92 n93 hw94 n95 => ?_)
        have hs96 := ty_same_tr hs79 (n95 fz (hx_ok hfz (by decide)))
        have hf97 := hFF _ _ (n95 pr_ (by decide)) hf77
        refine ax_go 1 (y := (99, [some (.ref o), some (.int z19), some (.int z41), some (.int z80)], [.int z80], w88, 0, 0)) rfl trivial ?_
        exact ax_ret rfl rfl trivial ⟨some (.int z80), _, rfl, hw94, hf97, hs96, (ck_top_ok (G := G) z80), trivial⟩
      · -- 87
        refine ax_go 1 (y := (88, [some (.ref o), some (.int z19), some (.int z41), some (.int z80)], [.ref o, .ref o], w75, 0, 0)) rfl trivial ?_
        obtain ⟨fs98, g99, -, q100⟩ := hx_obj hw76 hG0 (s := 30) rfl (by decide)
        obtain ⟨x101, e102, a103, b104⟩ := hx_fi (k := 28) (lo := (-2147483648)) (hi := 2147483647) q100 rfl
        refine hx_gf (l := 91) rfl rfl rfl g99 e102 ?_
        refine ax_go 1 (y := (95, [some (.ref o), some (.int z19), some (.int z41), some (.int z80)], [.int x101, .ref o], w75, 0, 0)) rfl trivial ?_
        refine hx_pf (q := (0, 0, 0, 0, (-2147483648), 2147483647)) (s := 30) (l := 98) (v := .int x101) rfl rfl rfl (by decide) rfl rfl rfl hw76 hG0 g99 trivial (ck_top_ok (G := G) x101) (fun w105 fs106 g107 e108 o109 n110 hw111 n112 => ?_)
        have hs113 := ty_same_tr hs79 (n112 fz (hx_ok hfz (by decide)))
        have hf114 := hFF _ _ (n112 pr_ (by decide)) hf77
        refine ax_go 1 (y := (99, [some (.ref o), some (.int z19), some (.int z41), some (.int z80)], [.int z80], w105, 0, 0)) rfl trivial ?_
        exact ax_ret rfl rfl trivial ⟨some (.int z80), _, rfl, hw111, hf114, hs113, (ck_top_ok (G := G) z80), trivial⟩
    by_cases h115 : x48.toInt = 25
    · -- case
      refine hx_tsq (l := 64) 3 rfl rfl (by decide) (by decide) rfl (by omega) (by omega) ?_
      refine ax_go 3 (y := (67, [some (.ref o), some (.int z19), some (.int z41), none], [.int z41, .int z19, .ref o], w36, 0, 0)) rfl trivial ?_
      refine hx_ci (l := 70) (as := [.ref o, .int z19, .int z41]) rfl rfl (hx_iv (j := 202) (n := 2) (o := o) (r := []) rfl rfl g46 rfl) (h_X9_growsKept (fz := fz) hF (fun q hq => (by decide +kernel : ∀ q ∈ fb_X9_obeys, q ∈ fb_X9_growsKept) q (hfz q hq)) (d + 94)) hw37 hf38 ⟨(hx_tr (G := G) (s := 30) (b := 0) hG0 (by decide)), (ck_top_ok (G := G) z19), (ck_top_ok (G := G) z41), trivial⟩ (fun w116 z121 hw117 hf118 m119 a122 b123 u124 => ?_)
      have hs120 := ty_same_tr hs40 m119
      exact ax_ret rfl rfl trivial ⟨some (.int z121), _, rfl, hw117, hf118, hs120, (ck_top_ok (G := G) z121), trivial⟩
    refine hx_tsd (l := 76) rfl (by decide) rfl (by omega) ?_
    refine ax_go 2 (y := (78, [some (.ref o), some (.int z19), some (.int z41), none], [.int z19, .ref o], w36, 0, 0)) rfl trivial ?_
    refine hx_ci (l := 81) (as := [.ref o, .int z19]) rfl rfl (hx_iv (j := 198) (n := 1) (o := o) (r := []) rfl rfl g46 rfl) (cc_X9_reckonsKept_0 (fz := fz) hFF (fun d => h_X9_isParish (fz := fz) hF (fun q hq => (by decide +kernel : ∀ q ∈ fb_X9_obeys, q ∈ fb_X9_isParish) q (hfz q hq)) d) (fun d => h_X9_walkersOf (fz := fz) hF (fun q hq => (by decide +kernel : ∀ q ∈ fb_X9_obeys, q ∈ fb_hp_X9_walkersOf) q (hfz q hq)) (d + 27)) (fun d => h_X9_isBarred (fz := fz) hF (fun q hq => (by decide +kernel : ∀ q ∈ fb_X9_obeys, q ∈ fb_X9_isBarred) q (hfz q hq)) (d + 27)) (fun d => h_X9_keeps (fz := fz) hF (fun q hq => (by decide +kernel : ∀ q ∈ fb_X9_obeys, q ∈ fb_X9_keeps) q (hfz q hq)) d) (fun d => h_X9_reckons (fz := fz) hF (fun q hq => (by decide +kernel : ∀ q ∈ fb_X9_obeys, q ∈ fb_X9_reckons) q (hfz q hq)) (d + 24)) (fun q hq => (by decide +kernel : ∀ q ∈ fb_X9_obeys, q ∈ fr_X9_reckonsKept_0) q (hfz q hq)) (d + 2)) hw37 hf38 ⟨(hx_tr (G := G) (s := 30) (b := 0) hG0 (by decide)), (ck_top_ok (G := G) z19), trivial⟩ (fun w125 z130 hw126 hf127 m128 a131 b132 u133 => ?_)
    have hs129 := ty_same_tr hs40 m128
    refine ax_go 3 (y := (84, [some (.ref o), some (.int z19), some (.int z41), some (.int z130)], [.int z130, .ref o], w125, 0, 0)) rfl trivial ?_
    refine hx_if_ge (l := 87) rfl rfl (fun h134 => ?_) (fun h134 => ?_)
    · -- 94
      refine ax_go 1 (y := (95, [some (.ref o), some (.int z19), some (.int z41), some (.int z130)], [.int z130, .ref o], w125, 0, 0)) rfl trivial ?_
      obtain ⟨fs135, g136, -, q137⟩ := hx_obj hw126 hG0 (s := 30) rfl (by decide)
      refine hx_pf (q := (0, 0, 0, 0, (-2147483648), 2147483647)) (s := 30) (l := 98) (v := .int z130) rfl rfl rfl (by decide) rfl rfl rfl hw126 hG0 g136 trivial (ck_top_ok (G := G) z130) (fun w138 fs139 g140 e141 o142 n143 hw144 n145 => ?_)
      have hs146 := ty_same_tr hs129 (n145 fz (hx_ok hfz (by decide)))
      have hf147 := hFF _ _ (n145 pr_ (by decide)) hf127
      refine ax_go 1 (y := (99, [some (.ref o), some (.int z19), some (.int z41), some (.int z130)], [.int z130], w138, 0, 0)) rfl trivial ?_
      exact ax_ret rfl rfl trivial ⟨some (.int z130), _, rfl, hw144, hf147, hs146, (ck_top_ok (G := G) z130), trivial⟩
    · -- 87
      refine ax_go 1 (y := (88, [some (.ref o), some (.int z19), some (.int z41), some (.int z130)], [.ref o, .ref o], w125, 0, 0)) rfl trivial ?_
      obtain ⟨fs148, g149, -, q150⟩ := hx_obj hw126 hG0 (s := 30) rfl (by decide)
      obtain ⟨x151, e152, a153, b154⟩ := hx_fi (k := 28) (lo := (-2147483648)) (hi := 2147483647) q150 rfl
      refine hx_gf (l := 91) rfl rfl rfl g149 e152 ?_
      refine ax_go 1 (y := (95, [some (.ref o), some (.int z19), some (.int z41), some (.int z130)], [.int x151, .ref o], w125, 0, 0)) rfl trivial ?_
      refine hx_pf (q := (0, 0, 0, 0, (-2147483648), 2147483647)) (s := 30) (l := 98) (v := .int x151) rfl rfl rfl (by decide) rfl rfl rfl hw126 hG0 g149 trivial (ck_top_ok (G := G) x151) (fun w155 fs156 g157 e158 o159 n160 hw161 n162 => ?_)
      have hs163 := ty_same_tr hs129 (n162 fz (hx_ok hfz (by decide)))
      have hf164 := hFF _ _ (n162 pr_ (by decide)) hf127
      refine ax_go 1 (y := (99, [some (.ref o), some (.int z19), some (.int z41), some (.int z130)], [.int z130], w155, 0, 0)) rfl trivial ?_
      exact ax_ret rfl rfl trivial ⟨some (.int z130), _, rfl, hw161, hf164, hs163, (ck_top_ok (G := G) z130), trivial⟩
