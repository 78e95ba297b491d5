/-! walks by program: the reference's evaluator -/
def fb_hp_X9_codeAt : List (Nat × Nat) := [(8, 3), (8, 5), (19, 999), (32, 999), (33, 999), (34, 999), (35, 999), (44, 999), (45, 999), (1, 0), (18, 999), (2, 11), (2, 14), (1, 15), (54, 11), (4, 2), (7, 9), (30, 13), (30, 34), (30, 2), (30, 22), (30, 23), (30, 24), (30, 25), (46, 999), (47, 999), (30, 35), (30, 36), (7, 0), (24, 999), (37, 999), (30, 4), (30, 5), (30, 6), (30, 8), (30, 9), (30, 10), (30, 11), (30, 14), (30, 15), (30, 16), (30, 17), (30, 18), (30, 19), (30, 20), (30, 21), (39, 999), (40, 999), (41, 999), (30, 30), (30, 42), (30, 43), (30, 44), (1, 1), (1, 3), (1, 10), (1, 13), (8, 0), (30, 49), (2, 15), (8, 1)]
set_option maxHeartbeats 8000000 in
theorem hp_X9_codeAt {ro : ab_R} {G : Nat → Nat} {fz : List (Nat × Nat)} {F : ab_W → Prop} (hF : ∀ w w', smt G w w' → F w → F w') (hfz : ∀ q ∈ fz, q ∈ fb_hp_X9_codeAt) (d : Nat) : hx_ct ro sp_ G (F9 G F) fz (ab_Ev ro ab_codes (d + 1)) 172 [(2, 30, 0), (0, (-2147483648), 2147483647)] (some (0, (-2147483648), 2147483647)) (fun as w => ∀ (o : Nat) (k e : Int32), as = [.ref o, .int k] → hx_has w o 9 23 (.int e) → 0 ≤ k.toInt ∧ e.toInt ≤ 2800) (fun as w v w1 => w1 = w ∧ ∀ (o : Nat) (k : Int32) (pk : Nat) (f : Nat → Int32) (e z : Int32), as = [.ref o, .int k] → hx_has w o 9 2 (.ref pk) → w[pk]? = some (.inl (0, 5721, .inl f)) → hx_has w o 9 23 (.int e) → v = some (.int z) → z.toInt = gc (cf f) e.toInt.toNat k.toInt.toNat) := by
  have hFF := F9_same hF
  refine hx_hand (d := d + 0) (by decide) (fun as w hw hf has hP => ?_)
  match as, has with
  | [v0, v1], ⟨h0, h1, _⟩ =>
    obtain ⟨o, rfl, _, hG0⟩ := ty_refn h0 rfl rfl
    replace hG0 : G o = 30 := hG0
    obtain ⟨k, rfl, hl1, hh1⟩ := ty_int h1 rfl
    replace hl1 : ((-2147483648) : Int) ≤ k.toInt := hl1
    replace hh1 : k.toInt ≤ 2147483647 := hh1
    refine ⟨rfl, ?_⟩
    obtain ⟨fs1, g2, -, q3⟩ := hx_obj hw hG0 (s := 30) rfl (by decide)
    obtain ⟨pk, e_pk, hG_pk⟩ := hx_fr (k := 2) (s := 32) q3 rfl
    obtain ⟨f0, g_f0, r_f0⟩ := hx_row hw hG_pk (s := 32) (kd := 0) (n := 5721) rfl (by decide)
    obtain ⟨x4, e5, a6, b7⟩ := hx_fi (k := 23) (lo := (-2147483648)) (hi := 2147483647) q3 rfl
    have hp0 := hP o k x4 rfl ⟨_, g2, e5⟩
    change ab_wp ro (ab_Ev ro ab_codes d) 9 false (some .int) ab_k_X9_codeAt (fun o_1 => ∃ v w1, o_1 = (v, w1, 0, 0) ∧ ty_w sp_ G w1 ∧ (F9 G F) w1 ∧ ty_same G fz w w1 ∧ ck_res G (some (0, (-2147483648), 2147483647)) v ∧ (fun as w v w1 => w1 = w ∧ ∀ (o : Nat) (k : Int32) (pk : Nat) (f : Nat → Int32) (e z : Int32), as = [.ref o, .int k] → hx_has w o 9 2 (.ref pk) → w[pk]? = some (.inl (0, 5721, .inl f)) → hx_has w o 9 23 (.int e) → v = some (.int z) → z.toInt = gc (cf f) e.toInt.toNat k.toInt.toNat) ([.ref o, .int k] : List Value) w v w1) (0, [some (.ref o), some (.int k)], [], w, 0, 0)
    refine ax_go 2 (y := (2, [some (.ref o), some (.int k)], [.ref o, .int k], w, 0, 0)) rfl trivial ?_
    refine hx_gf (l := 5) rfl rfl rfl g2 e5 ?_
    refine hx_ic_ge (l := 8) rfl rfl (fun h8 => ?_) (fun h8 => ?_)
    · -- 20
      refine hx_k (l := 21) (m := 0) rfl rfl (by decide) (fun z9 h10 => ?_)
      exact ax_ret rfl rfl trivial ⟨some (.int z9), _, rfl, hw, hf, (ty_same_rf w), (ck_top_ok (G := G) z9), ⟨rfl, fun o1 k1 pk1 f1 e1 z1 h1 h2 h3 h4 h5 => by cases h1; cases h5; obtain ⟨fsA, gA, iA⟩ := h2; obtain rfl := hx_inj g2 gA; cases e_pk.symm.trans iA; obtain rfl := hx_injr g_f0 h3; obtain ⟨fsB, gB, iB⟩ := h4; obtain rfl := hx_inj g2 gB; obtain rfl := hx_inji e5 iB; rw [gc_out (by omega)]; omega⟩⟩
    · -- 8
      refine ax_go 1 (y := (9, [some (.ref o), some (.int k)], [.ref o], w, 0, 0)) rfl trivial ?_
      refine hx_gf (l := 12) rfl rfl rfl g2 e_pk ?_
      refine hx_k (l := 14) (m := 121) rfl rfl (by decide) (fun z11 h12 => ?_)
      refine ax_go 1 (y := (15, [some (.ref o), some (.int k)], [.int k, .int z11, .ref pk], w, 0, 0)) rfl trivial ?_
      refine hx_add (l := 16) rfl rfl (fun z13 h14 => ?_)
      replace h14 := h14 (by omega) (by omega)
      refine hx_il (l := 17) rfl rfl g_f0 (by omega) (by omega) (fun z15 h16 => ?_)
      refine ax_go 1 (y := (21, [some (.ref o), some (.int k)], [.int z15], w, 0, 0)) rfl trivial ?_
      exact ax_ret rfl rfl trivial ⟨some (.int z15), _, rfl, hw, hf, (ty_same_rf w), (ck_top_ok (G := G) z15), ⟨rfl, fun o1 k1 pk1 f1 e1 z1 h1 h2 h3 h4 h5 => by cases h1; cases h5; obtain ⟨fsA, gA, iA⟩ := h2; obtain rfl := hx_inj g2 gA; cases e_pk.symm.trans iA; obtain rfl := hx_injr g_f0 h3; obtain ⟨fsB, gB, iB⟩ := h4; obtain rfl := hx_inj g2 gB; obtain rfl := hx_inji e5 iB; rw [gc_in (by omega), h16, show z13.toInt.toNat = 121 + k.toInt.toNat by omega]⟩⟩
def fb_hp_X9_sign : List (Nat × Nat) := [(8, 3), (8, 5), (19, 999), (32, 999), (33, 999), (34, 999), (35, 999), (44, 999), (45, 999), (1, 0), (18, 999), (2, 11), (2, 14), (1, 15), (54, 11), (4, 2), (7, 9), (30, 13), (30, 34), (30, 2), (30, 22), (30, 23), (30, 24), (30, 25), (46, 999), (47, 999), (30, 35), (30, 36), (7, 0), (24, 999), (37, 999), (30, 4), (30, 5), (30, 6), (30, 8), (30, 9), (30, 10), (30, 11), (30, 14), (30, 15), (30, 16), (30, 17), (30, 18), (30, 19), (30, 20), (30, 21), (39, 999), (40, 999), (41, 999), (30, 30), (30, 42), (30, 43), (30, 44), (1, 1), (1, 3), (1, 10), (1, 13), (8, 0), (30, 49), (2, 15), (8, 1)]
set_option maxHeartbeats 8000000 in
theorem hp_X9_sign {ro : ab_R} {G : Nat → Nat} {fz : List (Nat × Nat)} {F : ab_W → Prop} (hF : ∀ w w', smt G w w' → F w → F w') (hfz : ∀ q ∈ fz, q ∈ fb_hp_X9_sign) (d : Nat) : hx_ct ro sp_ G (F9 G F) fz (ab_Ev ro ab_codes (d + 1)) 155 [(0, 0, 255)] (some (0, 100, 355)) (fun _ _ => True) (fun as w v w1 => w1 = w ∧ ∀ c z : Int32, as = [.int c] → v = some (.int z) → z.toInt = 100 + c.toInt) := by
  have hFF := F9_same hF
  refine hx_hand (d := d + 0) (by decide) (fun as w hw hf has hP => ?_)
  match as, has with
  | [v0], ⟨h0, _⟩ =>
    obtain ⟨c, rfl, hl0, hh0⟩ := ty_int h0 rfl
    replace hl0 : (0 : Int) ≤ c.toInt := hl0
    replace hh0 : c.toInt ≤ 255 := hh0
    refine ⟨rfl, ?_⟩
    change ab_wp ro (ab_Ev ro ab_codes d) 9 false (some .int) ab_k_X9_sign (fun o_1 => ∃ v w1, o_1 = (v, w1, 0, 0) ∧ ty_w sp_ G w1 ∧ (F9 G F) w1 ∧ ty_same G fz w w1 ∧ ck_res G (some (0, 100, 355)) v ∧ (fun as w v w1 => w1 = w ∧ ∀ c z : Int32, as = [.int c] → v = some (.int z) → z.toInt = 100 + c.toInt) ([.int c] : List Value) w v w1) (0, [some (.int c)], [], w, 0, 0)
    refine hx_k (l := 2) (m := 100) rfl rfl (by decide) (fun z1 h2 => ?_)
    refine ax_go 1 (y := (3, [some (.int c)], [.int c, .int z1], w, 0, 0)) rfl trivial ?_
    refine hx_add (l := 4) rfl rfl (fun z3 h4 => ?_)
    replace h4 := h4 (by omega) (by omega)
    exact ax_ret rfl rfl trivial ⟨some (.int z3), _, rfl, hw, hf, (ty_same_rf w), (hx_ti (G := G) (lo := 100) (hi := 355) (by omega) (by omega)), ⟨rfl, fun c1 z1 h1 h2 => by cases h1; cases h2; omega⟩⟩
def fb_hp_X9_passes0 : List (Nat × Nat) := [(8, 3), (8, 5), (19, 999), (32, 999), (33, 999), (34, 999), (35, 999), (44, 999), (45, 999), (1, 0), (18, 999), (2, 11), (2, 14), (1, 15), (54, 11), (4, 2), (7, 9), (30, 13), (30, 34), (30, 2), (30, 23), (30, 24), (30, 25), (46, 999), (47, 999), (30, 35), (30, 36), (7, 0), (24, 999), (37, 999), (30, 4), (30, 5), (30, 6), (30, 8), (30, 9), (30, 10), (30, 11), (30, 14), (30, 15), (30, 16), (30, 17), (30, 18), (30, 19), (30, 20), (30, 21), (39, 999), (40, 999), (41, 999), (30, 30), (30, 42), (30, 43), (30, 44), (1, 1), (1, 3), (1, 10), (1, 13), (8, 0), (30, 49), (2, 15), (8, 1)]
set_option maxHeartbeats 8000000 in
theorem hp_X9_passes0 {ro : ab_R} {G : Nat → Nat} {fz : List (Nat × Nat)} {F : ab_W → Prop} (hF : ∀ w w', smt G w w' → F w → F w') {pk : Nat} {f : Nat → Int32} {g e io : Int32} (hg : 0 ≤ g.toInt ∧ g.toInt ≤ 5000) (he : 0 ≤ e.toInt ∧ e.toInt ≤ 2800) (hfz : ∀ q ∈ fz, q ∈ fb_hp_X9_passes0) (d : Nat) : hx_ct ro sp_ G (F9 G F) fz (ab_Ev ro ab_codes (d + 2)) 173 [(2, 30, 0), (0, (-2147483648), 2147483647)] (some (0, 0, 1)) (evP pk f g e io) (fun as _ v w1 => ∀ (o : Nat) (c z : Int32), as = [.ref o, .int c] → v = some (.int z) → ∃ g2 : Int32, ev_st w1 o pk f g2 e io ∧ ((z.toInt = 1 ∧ gc (cf f) e.toInt.toNat g.toInt.toNat = c.toInt ∧ g2.toInt = g.toInt + 1) ∨ (z.toInt = 0 ∧ ¬ gc (cf f) e.toInt.toNat g.toInt.toNat = c.toInt ∧ g2.toInt = g.toInt))) := by
  have hFF := F9_same hF
  refine hx_hand (d := d + 1) (by decide) (fun as w hw hf has hP => ?_)
  match as, has with
  | [v0, v1], ⟨h0, h1, _⟩ =>
    obtain ⟨o, rfl, _, hG0⟩ := ty_refn h0 rfl rfl
    replace hG0 : G o = 30 := hG0
    obtain ⟨lv, rfl, hl1, hh1⟩ := ty_int h1 rfl
    replace hl1 : ((-2147483648) : Int) ≤ lv.toInt := hl1
    replace hh1 : lv.toInt ≤ 2147483647 := hh1
    refine ⟨rfl, ?_⟩
    obtain ⟨fs0, g0, i2, i22, i23, i25, gk0⟩ := hP o lv rfl
    have hG_pk : G pk = 32 := hx_sref hw g0 hG0 i2
    change ab_wp ro (ab_Ev ro ab_codes (d + 1)) 9 false (some .boolean) ab_k_X9_passes0 (fun o_1 => ∃ v w1, o_1 = (v, w1, 0, 0) ∧ ty_w sp_ G w1 ∧ (F9 G F) w1 ∧ ty_same G fz w w1 ∧ ck_res G (some (0, 0, 1)) v ∧ (fun as _ v w1 => ∀ (o : Nat) (c z : Int32), as = [.ref o, .int c] → v = some (.int z) → ∃ g2 : Int32, ev_st w1 o pk f g2 e io ∧ ((z.toInt = 1 ∧ gc (cf f) e.toInt.toNat g.toInt.toNat = c.toInt ∧ g2.toInt = g.toInt + 1) ∨ (z.toInt = 0 ∧ ¬ gc (cf f) e.toInt.toNat g.toInt.toNat = c.toInt ∧ g2.toInt = g.toInt))) ([.ref o, .int lv] : List Value) w v w1) (0, [some (.ref o), some (.int lv), none], [], w, 0, 0)
    refine ax_go 2 (y := (2, [some (.ref o), some (.int lv), none], [.ref o, .ref o], w, 0, 0)) rfl trivial ?_
    refine hx_gf (l := 5) rfl rfl rfl g0 i22 ?_
    refine hx_pi (l := 8) (as := [.ref o, .int g]) rfl rfl (hx_iv (j := 172) (n := 1) (o := o) (r := []) rfl rfl g0 rfl) (hp_X9_codeAt (fz := fz) hF (fun q hq => (by decide +kernel : ∀ q ∈ fb_hp_X9_passes0, q ∈ fb_hp_X9_codeAt) q (hfz q hq)) (d + 0)) hw hf ⟨(hx_tr (G := G) (s := 30) (b := 0) hG0 (by decide)), (ck_top_ok (G := G) g), trivial⟩ (fun y0 y1 y2 h1 h2 => by cases h1; obtain ⟨fs1, g1, e1⟩ := h2; obtain rfl := hx_inj g0 g1; obtain rfl := hx_inji i23 e1; exact ⟨by omega, by omega⟩) (fun w1 z6 hw2 hf3 m4 a7 b8 u9 => ?_)
    rw [u9.1]
    have u10 := u9.2 _ _ _ _ _ _ rfl ⟨_, g0, i2⟩ gk0 ⟨_, g0, i23⟩ rfl
    clear u9
    refine ax_go 1 (y := (9, [some (.ref o), some (.int lv), none], [.int lv, .int z6], w, 0, 0)) rfl trivial ?_
    refine hx_ic_ne (l := 12) rfl rfl (fun h11 => ?_) (fun h11 => ?_)
    · -- 16
      refine hx_k (l := 17) (m := 0) rfl rfl (by decide) (fun z12 h13 => ?_)
      refine ax_go 2 (y := (19, [some (.ref o), some (.int lv), some (.int z12)], [.int z12], w, 0, 0)) rfl trivial ?_
      refine hx_if_eq (l := 22) rfl rfl (fun h14 => ?_) (fun h14 => by omega)
      refine ax_go 1 (y := (33, [some (.ref o), some (.int lv), some (.int z12)], [.int z12], w, 0, 0)) rfl trivial ?_
      exact ax_ret rfl rfl ⟨hx_01 (by omega) (by omega), trivial⟩ ⟨some (.int z12), _, rfl, hw, hf, (ty_same_rf w), (hx_ti (G := G) (lo := 0) (hi := 1) (by omega) (by omega)), (fun o1 c1 z1 h1 h2 => by cases h1; cases h2; exact ⟨g, ⟨_, g0, i2, i22, i23, i25, gk0⟩, by omega⟩)⟩
    · -- 12
      refine hx_k (l := 13) (m := 1) rfl rfl (by decide) (fun z15 h16 => ?_)
      refine ax_go 3 (y := (19, [some (.ref o), some (.int lv), some (.int z15)], [.int z15], w, 0, 0)) rfl trivial ?_
      refine hx_if_eq (l := 22) rfl rfl (fun h17 => by omega) (fun h17 => ?_)
      refine ax_go 2 (y := (24, [some (.ref o), some (.int lv), some (.int z15)], [.ref o, .ref o], w, 0, 0)) rfl trivial ?_
      refine hx_gf (l := 27) rfl rfl rfl g0 i22 ?_
      refine hx_k (l := 28) (m := 1) rfl rfl (by decide) (fun z18 h19 => ?_)
      refine hx_add (l := 29) rfl rfl (fun z20 h21 => ?_)
      replace h21 := h21 (by omega) (by omega)
      refine hx_pf (q := (0, 0, 0, 0, (-2147483648), 2147483647)) (s := 30) (l := 32) (v := .int z20) rfl rfl rfl (by decide) rfl rfl rfl hw hG0 g0 trivial (ck_top_ok (G := G) z20) (fun w22 fs23 g24 e25 o26 n27 hw28 n29 => ?_)
      have hs30 := ty_same_tr (ty_same_rf w) (n29 fz (hx_ok hfz (by decide)))
      have hf31 := hFF _ _ (n29 pr_ (by decide)) hf
      refine ax_go 1 (y := (33, [some (.ref o), some (.int lv), some (.int z15)], [.int z15], w22, 0, 0)) rfl trivial ?_
      exact ax_ret rfl rfl ⟨hx_01 (by omega) (by omega), trivial⟩ ⟨some (.int z15), _, rfl, hw28, hf31, hs30, (hx_ti (G := G) (lo := 0) (hi := 1) (by omega) (by omega)), (fun o1 c1 z1 h1 h2 => by cases h1; cases h2; exact ⟨z20, ⟨_, g24, ((o26 2 (by decide)).trans i2), e25, ((o26 23 (by decide)).trans i23), ((o26 25 (by decide)).trans i25), ((n27 _ (hx_ne hG_pk hG0 (by decide))).trans gk0)⟩, by omega⟩)⟩
def fb_X9_bounded : List (Nat × Nat) := [(8, 3), (8, 5), (19, 999), (32, 999), (33, 999), (34, 999), (35, 999), (44, 999), (45, 999), (1, 0), (18, 999), (2, 11), (2, 14), (1, 15), (54, 11), (4, 2), (7, 9), (30, 13), (30, 34), (30, 2), (30, 22), (30, 23), (30, 25), (46, 999), (47, 999), (30, 35), (30, 36), (7, 0), (24, 999), (37, 999), (30, 4), (30, 5), (30, 6), (30, 8), (30, 9), (30, 10), (30, 11), (30, 14), (30, 15), (30, 16), (30, 17), (30, 18), (30, 19), (30, 20), (30, 21), (39, 999), (40, 999), (41, 999), (30, 30), (30, 42), (30, 43), (30, 44), (1, 1), (1, 3), (1, 10), (1, 13), (8, 0), (30, 49), (2, 15), (8, 1)]
set_option maxHeartbeats 8000000 in
theorem h_X9_bounded {ro : ab_R} {G : Nat → Nat} {fz : List (Nat × Nat)} {F : ab_W → Prop} (hF : ∀ w w', smt G w w' → F w → F w') (hfz : ∀ q ∈ fz, q ∈ fb_X9_bounded) (d : Nat) : ck_ct ro sp_ G (F9 G F) fz (ab_Ev ro ab_codes (d + 1)) 174 [(2, 30, 0), (1, (-9223372036854775808), 9223372036854775807), (0, 0, 1)] (some (1, (-9223372036854775808), 9223372036854775807)) 0 0 := by
  have hFF := F9_same hF
  refine ck_hand (d := d + 0) (by decide) (fun as w hw hf has => ?_)
  match as, has with
  | [v0, v1, v2], ⟨h0, h1, h2, _⟩ =>
    obtain ⟨o, rfl, _, hG0⟩ := ty_refn h0 rfl rfl
    replace hG0 : G o = 30 := hG0
    obtain ⟨v0, rfl, hl1, hh1⟩ := ty_long h1 rfl
    obtain ⟨lv, rfl, hl2, hh2⟩ := ty_int h2 rfl
    replace hl2 : (0 : Int) ≤ lv.toInt := hl2
    replace hh2 : lv.toInt ≤ 1 := hh2
    refine ⟨rfl, ?_⟩
    change ab_wp ro (ab_Ev ro ab_codes d) 9 false (some .long) ab_k_X9_bounded (fun o_1 => ∃ v w1, o_1 = (v, w1, 0, 0) ∧ ty_w sp_ G w1 ∧ (F9 G F) w1 ∧ ty_same G fz w w1 ∧ ck_res G (some (1, (-9223372036854775808), 9223372036854775807)) v ∧ ck_wit 0 0 [.ref o, .long v0, .int lv] v) (0, [some (.ref o), some (.long v0), none, some (.int lv)], [], w, 0, 0)
    refine ax_go 1 (y := (1, [some (.ref o), some (.long v0), none, some (.int lv)], [.int lv], w, 0, 0)) rfl trivial ?_
    refine hx_if_eq (l := 4) rfl rfl (fun h1 => ?_) (fun h1 => ?_)
    · -- 25
      refine ax_go 1 (y := (26, [some (.ref o), some (.long v0), none, some (.int lv)], [.ref o], w, 0, 0)) rfl trivial ?_
      obtain ⟨fs2, g3, -, q4⟩ := hx_obj hw hG0 (s := 30) rfl (by decide)
      obtain ⟨x5, e6, a7, b8⟩ := hx_fi (k := 24) (lo := 0) (hi := 1) q4 rfl
      refine hx_gf (l := 29) rfl rfl rfl g3 e6 ?_
      refine hx_if_eq (l := 32) rfl rfl (fun h9 => ?_) (fun h9 => ?_)
      · -- 36
        refine ax_go 1 (y := (37, [some (.ref o), some (.long v0), none, some (.int lv)], [.long v0], w, 0, 0)) rfl trivial ?_
        exact ax_ret rfl rfl trivial ⟨some (.long v0), _, rfl, hw, hf, (ty_same_rf w), (ck_ltop_ok (G := G) v0), trivial⟩
      · -- 32
        refine hx_lk (l := 33) (m := 0) rfl rfl (by decide) (fun z10 h11 => ?_)
        refine ax_go 1 (y := (37, [some (.ref o), some (.long v0), none, some (.int lv)], [.long z10], w, 0, 0)) rfl trivial ?_
        exact ax_ret rfl rfl trivial ⟨some (.long z10), _, rfl, hw, hf, (ty_same_rf w), (ck_ltop_ok (G := G) z10), trivial⟩
    · -- 4
      refine ax_go 1 (y := (5, [some (.ref o), some (.long v0), none, some (.int lv)], [.long v0], w, 0, 0)) rfl trivial ?_
      refine hx_lk (l := 8) (m := 1000000000) rfl rfl (by decide) (fun z12 h13 => ?_)
      refine hx_lcmp (l := 9) rfl rfl (fun z14 h15 => ?_)
      refine hx_if_gt (l := 12) rfl rfl (fun h16 => ?_) (fun h16 => ?_)
      · -- 20
        refine ax_go 1 (y := (21, [some (.ref o), some (.long v0), none, some (.int lv)], [.ref o], w, 0, 0)) rfl trivial ?_
        refine hx_k (l := 22) (m := 1) rfl rfl (by decide) (fun z17 h18 => ?_)
        obtain ⟨fs19, g20, -, q21⟩ := hx_obj hw hG0 (s := 30) rfl (by decide)
        refine hx_pf (q := (0, 0, 0, 0, 0, 1)) (s := 30) (l := 25) (v := .int z17) rfl rfl rfl (by decide) rfl rfl rfl hw hG0 g20 ⟨hx_01 (by omega) (by omega), trivial⟩ (hx_ti (G := G) (lo := 0) (hi := 1) (by omega) (by omega)) (fun w22 fs23 g24 e25 o26 n27 hw28 n29 => ?_)
        have hs30 := ty_same_tr (ty_same_rf w) (n29 fz (hx_ok hfz (by decide)))
        have hf31 := hFF _ _ (n29 pr_ (by decide)) hf
        refine ax_go 1 (y := (26, [some (.ref o), some (.long v0), none, some (.int lv)], [.ref o], w22, 0, 0)) rfl trivial ?_
        refine hx_gf (l := 29) rfl rfl rfl g24 e25 ?_
        refine hx_if_eq (l := 32) rfl rfl (fun h32 => by omega) (fun h32 => ?_)
        refine hx_lk (l := 33) (m := 0) rfl rfl (by decide) (fun z33 h34 => ?_)
        refine ax_go 1 (y := (37, [some (.ref o), some (.long v0), none, some (.int lv)], [.long z33], w22, 0, 0)) rfl trivial ?_
        exact ax_ret rfl rfl trivial ⟨some (.long z33), _, rfl, hw28, hf31, hs30, (ck_ltop_ok (G := G) z33), trivial⟩
      · -- 12
        refine ax_go 1 (y := (13, [some (.ref o), some (.long v0), none, some (.int lv)], [.long v0], w, 0, 0)) rfl trivial ?_
        refine hx_lk (l := 16) (m := (-1000000000)) rfl rfl (by decide) (fun z35 h36 => ?_)
        refine hx_lcmp (l := 17) rfl rfl (fun z37 h38 => ?_)
        refine hx_if_ge (l := 20) rfl rfl (fun h39 => ?_) (fun h39 => ?_)
        · -- 25
          refine ax_go 1 (y := (26, [some (.ref o), some (.long v0), none, some (.int lv)], [.ref o], w, 0, 0)) rfl trivial ?_
          obtain ⟨fs40, g41, -, q42⟩ := hx_obj hw hG0 (s := 30) rfl (by decide)
          obtain ⟨x43, e44, a45, b46⟩ := hx_fi (k := 24) (lo := 0) (hi := 1) q42 rfl
          refine hx_gf (l := 29) rfl rfl rfl g41 e44 ?_
          refine hx_if_eq (l := 32) rfl rfl (fun h47 => ?_) (fun h47 => ?_)
          · -- 36
            refine ax_go 1 (y := (37, [some (.ref o), some (.long v0), none, some (.int lv)], [.long v0], w, 0, 0)) rfl trivial ?_
            exact ax_ret rfl rfl trivial ⟨some (.long v0), _, rfl, hw, hf, (ty_same_rf w), (ck_ltop_ok (G := G) v0), trivial⟩
          · -- 32
            refine hx_lk (l := 33) (m := 0) rfl rfl (by decide) (fun z48 h49 => ?_)
            refine ax_go 1 (y := (37, [some (.ref o), some (.long v0), none, some (.int lv)], [.long z48], w, 0, 0)) rfl trivial ?_
            exact ax_ret rfl rfl trivial ⟨some (.long z48), _, rfl, hw, hf, (ty_same_rf w), (ck_ltop_ok (G := G) z48), trivial⟩
        · -- 20
          refine ax_go 1 (y := (21, [some (.ref o), some (.long v0), none, some (.int lv)], [.ref o], w, 0, 0)) rfl trivial ?_
          refine hx_k (l := 22) (m := 1) rfl rfl (by decide) (fun z50 h51 => ?_)
          obtain ⟨fs52, g53, -, q54⟩ := hx_obj hw hG0 (s := 30) rfl (by decide)
          refine hx_pf (q := (0, 0, 0, 0, 0, 1)) (s := 30) (l := 25) (v := .int z50) rfl rfl rfl (by decide) rfl rfl rfl hw hG0 g53 ⟨hx_01 (by omega) (by omega), trivial⟩ (hx_ti (G := G) (lo := 0) (hi := 1) (by omega) (by omega)) (fun w55 fs56 g57 e58 o59 n60 hw61 n62 => ?_)
          have hs63 := ty_same_tr (ty_same_rf w) (n62 fz (hx_ok hfz (by decide)))
          have hf64 := hFF _ _ (n62 pr_ (by decide)) hf
          refine ax_go 1 (y := (26, [some (.ref o), some (.long v0), none, some (.int lv)], [.ref o], w55, 0, 0)) rfl trivial ?_
          refine hx_gf (l := 29) rfl rfl rfl g57 e58 ?_
          refine hx_if_eq (l := 32) rfl rfl (fun h65 => by omega) (fun h65 => ?_)
          refine hx_lk (l := 33) (m := 0) rfl rfl (by decide) (fun z66 h67 => ?_)
          refine ax_go 1 (y := (37, [some (.ref o), some (.long v0), none, some (.int lv)], [.long z66], w55, 0, 0)) rfl trivial ?_
          exact ax_ret rfl rfl trivial ⟨some (.long z66), _, rfl, hw61, hf64, hs63, (ck_ltop_ok (G := G) z66), trivial⟩
def fb_X9_orderValue : List (Nat × Nat) := [(8, 3), (8, 5), (19, 999), (32, 999), (33, 999), (34, 999), (35, 999), (44, 999), (45, 999), (1, 0), (18, 999), (2, 11), (2, 14), (1, 15), (54, 11), (4, 2), (7, 9), (30, 13), (30, 34), (30, 2), (30, 22), (30, 23), (30, 24), (30, 25), (46, 999), (47, 999), (30, 35), (30, 36), (7, 0), (24, 999), (37, 999), (30, 4), (30, 5), (30, 6), (30, 8), (30, 9), (30, 10), (30, 11), (30, 14), (30, 15), (30, 16), (30, 17), (30, 18), (30, 19), (30, 20), (30, 21), (39, 999), (40, 999), (41, 999), (30, 30), (30, 42), (30, 43), (30, 44), (1, 1), (1, 3), (1, 10), (1, 13), (8, 0), (30, 49), (2, 15), (8, 1)]
set_option maxHeartbeats 8000000 in
theorem h_X9_orderValue {ro : ab_R} {G : Nat → Nat} {fz : List (Nat × Nat)} {F : ab_W → Prop} (hF : ∀ w w', smt G w w' → F w → F w') (hfz : ∀ q ∈ fz, q ∈ fb_X9_orderValue) (d : Nat) : ck_ct ro sp_ G (F9 G F) fz (ab_Ev ro ab_codes (d + 3)) 178 [(2, 30, 0), (0, (-2147483648), 2147483647), (0, (-2147483648), 2147483647)] (some (0, (-2147483648), 2147483647)) 0 0 := by
  have hFF := F9_same hF
  refine ck_hand (d := d + 2) (by decide) (fun as w hw hf has => ?_)
  match as, has with
  | [v0, v1, v2], ⟨h0, h1, h2, _⟩ =>
    obtain ⟨o, rfl, _, hG0⟩ := ty_refn h0 rfl rfl
    replace hG0 : G o = 30 := hG0
    obtain ⟨c, rfl, hl1, hh1⟩ := ty_int h1 rfl
    replace hl1 : ((-2147483648) : Int) ≤ c.toInt := hl1
    replace hh1 : c.toInt ≤ 2147483647 := hh1
    obtain ⟨k, rfl, hl2, hh2⟩ := ty_int h2 rfl
    replace hl2 : ((-2147483648) : Int) ≤ k.toInt := hl2
    replace hh2 : k.toInt ≤ 2147483647 := hh2
    refine ⟨rfl, ?_⟩
    change ab_wp ro (ab_Ev ro ab_codes (d + 2)) 9 false (some .int) ab_k_X9_orderValue (fun o_1 => ∃ v w1, o_1 = (v, w1, 0, 0) ∧ ty_w sp_ G w1 ∧ (F9 G F) w1 ∧ ty_same G fz w w1 ∧ ck_res G (some (0, (-2147483648), 2147483647)) v ∧ ck_wit 0 0 [.ref o, .int c, .int k] v) (0, [some (.ref o), some (.int c), some (.int k)], [], w, 0, 0)
    refine ax_go 1 (y := (1, [some (.ref o), some (.int c), some (.int k)], [.int c], w, 0, 0)) rfl trivial ?_
    by_cases h1 : c.toInt = 14
    · -- case
      refine hx_tsq (l := 40) 0 rfl rfl (by decide) (by decide) rfl (by omega) (by omega) ?_
      refine ax_go 2 (y := (42, [some (.ref o), some (.int c), some (.int k)], [.int k, .ref o], w, 0, 0)) rfl trivial ?_
      obtain ⟨fs2, g3, -, q4⟩ := hx_obj hw hG0 (s := 30) rfl (by decide)
      refine hx_pi (l := 45) (as := [.ref o, .int k]) rfl rfl (hx_iv (j := 133) (n := 1) (o := o) (r := []) rfl rfl g3 rfl) (hp_X9_isParish (fz := fz) hF (fun q hq => (by decide +kernel : ∀ q ∈ fb_X9_orderValue, q ∈ fb_hp_X9_isParish) q (hfz q hq)) (d + 0)) hw hf ⟨(hx_tr (G := G) (s := 30) (b := 0) hG0 (by decide)), (ck_top_ok (G := G) k), trivial⟩ trivial (fun w5 z10 hw6 hf7 m8 a11 b12 u13 => ?_)
      rw [u13.1]
      obtain ⟨p14, e15, hG16⟩ := hx_fr (k := 2) (s := 32) q4 rfl
      obtain ⟨f17, g18, r19⟩ := hx_row hw hG16 (s := 32) (kd := 0) (n := 5721) rfl (by decide)
      have u20 := u13.2 _ _ _ _ _ rfl ⟨_, g3, e15⟩ g18 rfl
      clear u13
      have b21 := ((hf.1.1 _ _ hG16 g18).1 110 (by decide)).2.2.2.2.1 rfl
      refine hx_if_eq (l := 48) rfl rfl (fun h22 => ?_) (fun h22 => ?_)
      · -- 59
        clear u20
        refine hx_k (l := 60) (m := (-1)) rfl rfl (by decide) (fun z23 h24 => ?_)
        exact ax_ret rfl rfl trivial ⟨some (.int z23), _, rfl, hw, hf, (ty_same_rf w), (ck_top_ok (G := G) z23), trivial⟩
      · -- 48
        replace u20 := u20.1 (by omega)
        refine ax_go 1 (y := (49, [some (.ref o), some (.int c), some (.int k)], [.ref o], w, 0, 0)) rfl trivial ?_
        refine hx_gf (l := 52) rfl rfl rfl g3 e15 ?_
        refine hx_k (l := 53) (m := 0) rfl rfl (by decide) (fun z25 h26 => ?_)
        refine ax_go 1 (y := (54, [some (.ref o), some (.int c), some (.int k)], [.int k, .int z25, .ref p14], w, 0, 0)) rfl trivial ?_
        refine hx_add (l := 55) rfl rfl (fun z27 h28 => ?_)
        replace h28 := h28 (by omega) (by omega)
        refine hx_il (l := 56) rfl rfl g18 (by omega) (by omega) (fun z29 h30 => ?_)
        refine ax_go 1 (y := (60, [some (.ref o), some (.int c), some (.int k)], [.int z29], w, 0, 0)) rfl trivial ?_
        exact ax_ret rfl rfl trivial ⟨some (.int z29), _, rfl, hw, hf, (ty_same_rf w), (ck_top_ok (G := G) z29), trivial⟩
    by_cases h31 : c.toInt = 15
    · -- case
      refine hx_tsq (l := 61) 1 rfl rfl (by decide) (by decide) rfl (by omega) (by omega) ?_
      refine ax_go 2 (y := (63, [some (.ref o), some (.int c), some (.int k)], [.int k, .ref o], w, 0, 0)) rfl trivial ?_
      obtain ⟨fs32, g33, -, q34⟩ := hx_obj hw hG0 (s := 30) rfl (by decide)
      refine hx_pi (l := 66) (as := [.ref o, .int k]) rfl rfl (hx_iv (j := 133) (n := 1) (o := o) (r := []) rfl rfl g33 rfl) (hp_X9_isParish (fz := fz) hF (fun q hq => (by decide +kernel : ∀ q ∈ fb_X9_orderValue, q ∈ fb_hp_X9_isParish) q (hfz q hq)) (d + 0)) hw hf ⟨(hx_tr (G := G) (s := 30) (b := 0) hG0 (by decide)), (ck_top_ok (G := G) k), trivial⟩ trivial (fun w35 z40 hw36 hf37 m38 a41 b42 u43 => ?_)
      rw [u43.1]
      obtain ⟨p44, e45, hG46⟩ := hx_fr (k := 2) (s := 32) q34 rfl
      obtain ⟨f47, g48, r49⟩ := hx_row hw hG46 (s := 32) (kd := 0) (n := 5721) rfl (by decide)
      have u50 := u43.2 _ _ _ _ _ rfl ⟨_, g33, e45⟩ g48 rfl
      clear u43
      have b51 := ((hf.1.1 _ _ hG46 g48).1 110 (by decide)).2.2.2.2.1 rfl
      refine hx_if_eq (l := 69) rfl rfl (fun h52 => ?_) (fun h52 => ?_)
      · -- 78
        clear u50
        refine hx_k (l := 79) (m := (-1)) rfl rfl (by decide) (fun z53 h54 => ?_)
        exact ax_ret rfl rfl trivial ⟨some (.int z53), _, rfl, hw, hf, (ty_same_rf w), (ck_top_ok (G := G) z53), trivial⟩
      · -- 69
        replace u50 := u50.1 (by omega)
        refine ax_go 1 (y := (70, [some (.ref o), some (.int c), some (.int k)], [.ref o], w, 0, 0)) rfl trivial ?_
        obtain ⟨p55, e56, hG57⟩ := hx_fr (k := 29) (s := 43) q34 rfl
        refine hx_gf (l := 73) rfl rfl rfl g33 e56 ?_
        refine ax_go 1 (y := (74, [some (.ref o), some (.int c), some (.int k)], [.int k, .ref p55], w, 0, 0)) rfl trivial ?_
        obtain ⟨f58, g59, r60⟩ := hx_row hw hG57 (s := 43) (kd := 0) (n := 10) rfl (by decide)
        refine hx_il (l := 75) rfl rfl g59 (by omega) (by omega) (fun z61 h62 => ?_)
        refine ax_go 1 (y := (79, [some (.ref o), some (.int c), some (.int k)], [.int z61], w, 0, 0)) rfl trivial ?_
        exact ax_ret rfl rfl trivial ⟨some (.int z61), _, rfl, hw, hf, (ty_same_rf w), (ck_top_ok (G := G) z61), trivial⟩
    by_cases h63 : c.toInt = 16
    · -- case
      refine hx_tsq (l := 80) 2 rfl rfl (by decide) (by decide) rfl (by omega) (by omega) ?_
      refine ax_go 1 (y := (81, [some (.ref o), some (.int c), some (.int k)], [.ref o], w, 0, 0)) rfl trivial ?_
      obtain ⟨fs64, g65, -, q66⟩ := hx_obj hw hG0 (s := 30) rfl (by decide)
      obtain ⟨p67, e68, hG69⟩ := hx_fr (k := 2) (s := 32) q66 rfl
      refine hx_gf (l := 84) rfl rfl rfl g65 e68 ?_
      refine hx_k (l := 86) (m := 70) rfl rfl (by decide) (fun z70 h71 => ?_)
      obtain ⟨f72, g73, r74⟩ := hx_row hw hG69 (s := 32) (kd := 0) (n := 5721) rfl (by decide)
      refine hx_il (l := 87) rfl rfl g73 (by omega) (by omega) (fun z75 h76 => ?_)
      exact ax_ret rfl rfl trivial ⟨some (.int z75), _, rfl, hw, hf, (ty_same_rf w), (ck_top_ok (G := G) z75), trivial⟩
    by_cases h77 : c.toInt = 17
    · -- case
      refine hx_tsq (l := 88) 3 rfl rfl (by decide) (by decide) rfl (by omega) (by omega) ?_
      refine ax_go 1 (y := (89, [some (.ref o), some (.int c), some (.int k)], [.ref o], w, 0, 0)) rfl trivial ?_
      obtain ⟨fs78, g79, -, q80⟩ := hx_obj hw hG0 (s := 30) rfl (by decide)
      obtain ⟨x81, e82, a83, b84⟩ := hx_fi (k := 27) (lo := (-2147483648)) (hi := 2147483647) q80 rfl
      refine hx_gf (l := 92) rfl rfl rfl g79 e82 ?_
      exact ax_ret rfl rfl trivial ⟨some (.int x81), _, rfl, hw, hf, (ty_same_rf w), (ck_top_ok (G := G) x81), trivial⟩
    by_cases h85 : c.toInt = 18
    · -- case
      refine hx_tsq (l := 93) 4 rfl rfl (by decide) (by decide) rfl (by omega) (by omega) ?_
      refine ax_go 1 (y := (94, [some (.ref o), some (.int c), some (.int k)], [.ref o], w, 0, 0)) rfl trivial ?_
      obtain ⟨fs86, g87, -, q88⟩ := hx_obj hw hG0 (s := 30) rfl (by decide)
      obtain ⟨x89, e90, a91, b92⟩ := hx_fi (k := 28) (lo := (-2147483648)) (hi := 2147483647) q88 rfl
      refine hx_gf (l := 97) rfl rfl rfl g87 e90 ?_
      exact ax_ret rfl rfl trivial ⟨some (.int x89), _, rfl, hw, hf, (ty_same_rf w), (ck_top_ok (G := G) x89), trivial⟩
    by_cases h93 : c.toInt = 19
    · -- case
      refine hx_tsq (l := 98) 5 rfl rfl (by decide) (by decide) rfl (by omega) (by omega) ?_
      refine ax_go 1 (y := (99, [some (.ref o), some (.int c), some (.int k)], [.ref o], w, 0, 0)) rfl trivial ?_
      obtain ⟨fs94, g95, -, q96⟩ := hx_obj hw hG0 (s := 30) rfl (by decide)
      obtain ⟨p97, e98, hG99⟩ := hx_fr (k := 2) (s := 32) q96 rfl
      refine hx_gf (l := 102) rfl rfl rfl g95 e98 ?_
      refine hx_k (l := 104) (m := 69) rfl rfl (by decide) (fun z100 h101 => ?_)
      obtain ⟨f102, g103, r104⟩ := hx_row hw hG99 (s := 32) (kd := 0) (n := 5721) rfl (by decide)
      refine hx_il (l := 105) rfl rfl g103 (by omega) (by omega) (fun z105 h106 => ?_)
      exact ax_ret rfl rfl trivial ⟨some (.int z105), _, rfl, hw, hf, (ty_same_rf w), (ck_top_ok (G := G) z105), trivial⟩
    refine hx_tsd (l := 106) rfl (by decide) rfl (by omega) ?_
    refine ax_go 1 (y := (107, [some (.ref o), some (.int c), some (.int k)], [.ref o], w, 0, 0)) rfl trivial ?_
    obtain ⟨fs107, g108, -, q109⟩ := hx_obj hw hG0 (s := 30) rfl (by decide)
    refine hx_ci (l := 110) (as := [.ref o]) rfl rfl (hx_iv (j := 189) (n := 0) (o := o) (r := []) rfl rfl g108 rfl) (cc_X9_walking_0 (fz := fz) hFF  (fun q hq => (by decide +kernel : ∀ q ∈ fb_X9_orderValue, q ∈ fr_X9_walking_0) q (hfz q hq)) (d + 1)) hw hf ⟨(hx_tr (G := G) (s := 30) (b := 0) hG0 (by decide)), trivial⟩ (fun w110 z115 hw111 hf112 m113 a116 b117 u118 => ?_)
    have hs114 := ty_same_tr (ty_same_rf w) m113
    exact ax_ret rfl rfl trivial ⟨some (.int z115), _, rfl, hw111, hf112, hs114, (ck_top_ok (G := G) z115), trivial⟩
