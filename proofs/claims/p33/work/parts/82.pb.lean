/-! walks by program: the parser's small methods -/
def fb_hp_X9_fine : List (Nat × Nat) := [(8, 3), (8, 5), (19, 999), (32, 999), (33, 999), (34, 999), (35, 999), (44, 999), (45, 999), (1, 0), (18, 999), (2, 11), (2, 14), (1, 15), (54, 11), (4, 2), (7, 9), (30, 13), (30, 34), (30, 2), (30, 22), (30, 23), (30, 24), (30, 25), (46, 999), (47, 999), (30, 35), (30, 36), (7, 0), (24, 999), (37, 999), (30, 4), (30, 5), (30, 6), (30, 8), (30, 9), (30, 10), (30, 11), (30, 14), (30, 15), (30, 16), (30, 17), (30, 18), (30, 19), (30, 20), (30, 21), (39, 999), (40, 999), (41, 999), (30, 30), (30, 42), (30, 43), (30, 44), (1, 1), (1, 3), (1, 10), (1, 13), (8, 0), (30, 49), (2, 15), (8, 1)]
set_option maxHeartbeats 8000000 in
theorem hp_X9_fine {ro : ab_R} {G : Nat → Nat} {fz : List (Nat × Nat)} {F : ab_W → Prop} (hF : ∀ w w', smt G w w' → F w → F w') (hfz : ∀ q ∈ fz, q ∈ fb_hp_X9_fine) (d : Nat) : hx_ct ro sp_ G (F9 G F) fz (ab_Ev ro ab_codes (d + 1)) 150 [(2, 30, 0)] (some (0, 0, 1)) (fun _ _ => True) (fun as w v w1 => w1 = w ∧ ∀ (o : Nat) (b z : Int32), as = [.ref o] → hx_has w o 9 21 (.int b) → v = some (.int z) → (z.toInt = 1 ∧ b.toInt = -1) ∨ (z.toInt = 0 ∧ ¬ b.toInt = -1)) := by
  have hFF := F9_same hF
  refine hx_hand (d := d + 0) (by decide) (fun as w hw hf has hP => ?_)
  match as, has with
  | [v0], ⟨h0, _⟩ =>
    obtain ⟨o, rfl, _, hG0⟩ := ty_refn h0 rfl rfl
    replace hG0 : G o = 30 := hG0
    refine ⟨rfl, ?_⟩
    change ab_wp ro (ab_Ev ro ab_codes d) 9 false (some .boolean) ab_k_X9_fine (fun o_1 => ∃ v w1, o_1 = (v, w1, 0, 0) ∧ ty_w sp_ G w1 ∧ (F9 G F) w1 ∧ ty_same G fz w w1 ∧ ck_res G (some (0, 0, 1)) v ∧ (fun as w v w1 => w1 = w ∧ ∀ (o : Nat) (b z : Int32), as = [.ref o] → hx_has w o 9 21 (.int b) → v = some (.int z) → (z.toInt = 1 ∧ b.toInt = -1) ∨ (z.toInt = 0 ∧ ¬ b.toInt = -1)) ([.ref o] : List Value) w v w1) (0, [some (.ref o)], [], w, 0, 0)
    refine ax_go 1 (y := (1, [some (.ref o)], [.ref o], w, 0, 0)) rfl trivial ?_
    obtain ⟨fs1, g2, -, q3⟩ := hx_obj hw hG0 (s := 30) rfl (by decide)
    obtain ⟨x4, e5, a6, b7⟩ := hx_fi (k := 21) (lo := (-2147483648)) (hi := 2147483647) q3 rfl
    refine hx_gf (l := 4) rfl rfl rfl g2 e5 ?_
    refine hx_k (l := 5) (m := (-1)) rfl rfl (by decide) (fun z8 h9 => ?_)
    refine hx_ic_ne (l := 8) rfl rfl (fun h10 => ?_) (fun h10 => ?_)
    · -- 12
      refine hx_k (l := 13) (m := 0) rfl rfl (by decide) (fun z11 h12 => ?_)
      exact ax_ret rfl rfl ⟨hx_01 (by omega) (by omega), trivial⟩ ⟨some (.int z11), _, rfl, hw, hf, (ty_same_rf w), (hx_ti (G := G) (lo := 0) (hi := 1) (by omega) (by omega)), ⟨rfl, fun o1 b1 z1 h1 h2 h3 => by cases h1; cases h3; obtain ⟨fs1, g1, e1⟩ := h2; obtain rfl := hx_inj g2 g1; obtain rfl := hx_inji e5 e1; omega⟩⟩
    · -- 8
      refine hx_k (l := 9) (m := 1) rfl rfl (by decide) (fun z13 h14 => ?_)
      refine ax_go 1 (y := (13, [some (.ref o)], [.int z13], w, 0, 0)) rfl trivial ?_
      exact ax_ret rfl rfl ⟨hx_01 (by omega) (by omega), trivial⟩ ⟨some (.int z13), _, rfl, hw, hf, (ty_same_rf w), (hx_ti (G := G) (lo := 0) (hi := 1) (by omega) (by omega)), ⟨rfl, fun o1 b1 z1 h1 h2 h3 => by cases h1; cases h3; obtain ⟨fs1, g1, e1⟩ := h2; obtain rfl := hx_inj g2 g1; obtain rfl := hx_inji e5 e1; omega⟩⟩
def fb_hp_X9_faults : List (Nat × Nat) := [(8, 3), (8, 5), (19, 999), (32, 999), (33, 999), (34, 999), (35, 999), (44, 999), (45, 999), (1, 0), (18, 999), (2, 11), (2, 14), (1, 15), (54, 11), (4, 2), (7, 9), (30, 13), (30, 34), (30, 2), (30, 22), (30, 23), (30, 24), (30, 25), (46, 999), (47, 999), (30, 35), (30, 36), (7, 0), (24, 999), (37, 999), (30, 4), (30, 5), (30, 6), (30, 8), (30, 9), (30, 10), (30, 11), (30, 14), (30, 15), (30, 16), (30, 17), (30, 18), (30, 19), (30, 20), (39, 999), (40, 999), (41, 999), (30, 30), (30, 42), (30, 43), (30, 44), (1, 1), (1, 3), (1, 10), (1, 13), (8, 0), (30, 49), (2, 15), (8, 1)]
set_option maxHeartbeats 8000000 in
theorem hp_X9_faults {ro : ab_R} {G : Nat → Nat} {fz : List (Nat × Nat)} {F : ab_W → Prop} (hF : ∀ w w', smt G w w' → F w → F w') {pc pp : Nat} {fc fp : Nat → Int32} {tk e bd io fw lw : Int32} (hok : pa_ok fc fp e io fw lw) (htk : 0 ≤ tk.toInt ∧ tk.toInt ≤ e.toInt) (hfz : ∀ q ∈ fz, q ∈ fb_hp_X9_faults) (d : Nat) : hx_ct ro sp_ G (F9 G F) fz (ab_Ev ro ab_codes (d + 2)) 151 [(2, 30, 0)] none (paP pc pp fc fp tk e bd io fw lw) (fun as _ _ w1 => ∀ o : Nat, as[0]? = some (.ref o) → ∃ bd2 : Int32, pa_st w1 o pc pp fc fp tk e bd2 io fw lw ∧ ¬ bd2.toInt = -1) := by
  have hFF := F9_same hF
  refine hx_hand (d := d + 1) (by decide) (fun as w hw hf has hP => ?_)
  match as, has with
  | [v0], ⟨h0, _⟩ =>
    obtain ⟨o, rfl, _, hG0⟩ := ty_refn h0 rfl rfl
    replace hG0 : G o = 30 := hG0
    refine ⟨rfl, ?_⟩
    obtain ⟨fs0, g0, i15, i17, i19, i18, i21, i10, i8, i9, gc0, gp0⟩ := hP o rfl
    obtain ⟨⟨he0, he1⟩, hz0, hpl, -, -⟩ := id hok
    have hfw := pa_fw hok
    have hG_pc := pa_r15 hw g0 hG0 i15
    have hG_pp := pa_r17 hw g0 hG0 i17
    change ab_wp ro (ab_Ev ro ab_codes (d + 1)) 9 false none ab_k_X9_faults (fun o_1 => ∃ v w1, o_1 = (v, w1, 0, 0) ∧ ty_w sp_ G w1 ∧ (F9 G F) w1 ∧ ty_same G fz w w1 ∧ ck_res G none v ∧ (fun as _ _ w1 => ∀ o : Nat, as[0]? = some (.ref o) → ∃ bd2 : Int32, pa_st w1 o pc pp fc fp tk e bd2 io fw lw ∧ ¬ bd2.toInt = -1) ([.ref o] : List Value) w v w1) (0, [some (.ref o)], [], w, 0, 0)
    refine ax_go 1 (y := (1, [some (.ref o)], [.ref o], w, 0, 0)) rfl trivial ?_
    refine hx_pi (l := 4) (as := [.ref o]) rfl rfl (hx_iv (j := 150) (n := 0) (o := o) (r := []) rfl rfl g0 rfl) (hp_X9_fine (fz := fz) hF (fun q hq => (by decide +kernel : ∀ q ∈ fb_hp_X9_faults, q ∈ fb_hp_X9_fine) q (hfz q hq)) (d + 0)) hw hf ⟨(hx_tr (G := G) (s := 30) (b := 0) hG0 (by decide)), trivial⟩ trivial (fun w1 z6 hw2 hf3 m4 a7 b8 u9 => ?_)
    rw [u9.1]
    have u10 := u9.2 _ _ _ rfl ⟨_, g0, i21⟩ rfl
    clear u9
    rcases u10 with ⟨hz11, hb12⟩ | ⟨hz11, hb12⟩
    · -- fine 1
      refine hx_if_eq (l := 7) rfl rfl (fun h13 => by omega) (fun h13 => ?_)
      refine ax_go 2 (y := (9, [some (.ref o)], [.ref o, .ref o], w, 0, 0)) rfl trivial ?_
      refine hx_gf (l := 12) rfl rfl rfl g0 i17 ?_
      refine ax_go 1 (y := (13, [some (.ref o)], [.ref o, .ref pp, .ref o], w, 0, 0)) rfl trivial ?_
      refine hx_gf (l := 16) rfl rfl rfl g0 i19 ?_
      have r14 := hx_rq hw gp0 hG_pp (s := 41) rfl
      refine hx_il (l := 17) rfl rfl gp0 (by omega) (by omega) (fun z15 h16 => ?_)
      have b17 : 0 ≤ z15.toInt := by rw [h16]; exact hpl _ (by omega)
      refine hx_pf (q := (0, 0, 0, 0, (-2147483648), 2147483647)) (s := 30) (l := 20) (v := .int z15) rfl rfl rfl (by decide) rfl rfl rfl hw hG0 g0 trivial (ck_top_ok (G := G) z15) (fun w18 fs19 g20 e21 o22 n23 hw24 n25 => ?_)
      have hs26 := ty_same_tr (ty_same_rf w) (n25 fz (hx_ok hfz (by decide)))
      have hf27 := hFF _ _ (n25 pr_ (by decide)) hf
      exact ax_ret rfl rfl trivial ⟨none, _, rfl, hw24, hf27, hs26, trivial, (fun o1 h1 => by cases h1; exact ⟨z15, ⟨_, g20, ((o22 15 (by decide)).trans i15), ((o22 17 (by decide)).trans i17), ((o22 19 (by decide)).trans i19), ((o22 18 (by decide)).trans i18), e21, ((o22 10 (by decide)).trans i10), ((o22 8 (by decide)).trans i8), ((o22 9 (by decide)).trans i9), ((n23 _ (hx_ne hG_pc hG0 (by decide))).trans gc0), ((n23 _ (hx_ne hG_pp hG0 (by decide))).trans gp0)⟩, by omega⟩)⟩
    · -- fine 0
      refine hx_if_eq (l := 7) rfl rfl (fun h28 => ?_) (fun h28 => by omega)
      exact ax_ret rfl rfl trivial ⟨none, _, rfl, hw, hf, (ty_same_rf w), trivial, (fun o1 h1 => by cases h1; exact ⟨bd, ⟨_, g0, i15, i17, i19, i18, i21, i10, i8, i9, gc0, gp0⟩, by omega⟩)⟩
def fb_hp_X9_takes0 : List (Nat × Nat) := [(8, 3), (8, 5), (19, 999), (32, 999), (33, 999), (34, 999), (35, 999), (44, 999), (45, 999), (1, 0), (18, 999), (2, 11), (2, 14), (1, 15), (54, 11), (4, 2), (7, 9), (30, 13), (30, 34), (30, 2), (30, 22), (30, 23), (30, 24), (30, 25), (46, 999), (47, 999), (30, 35), (30, 36), (7, 0), (24, 999), (37, 999), (30, 4), (30, 5), (30, 6), (30, 8), (30, 9), (30, 10), (30, 11), (30, 14), (30, 15), (30, 16), (30, 17), (30, 18), (30, 20), (30, 21), (39, 999), (40, 999), (41, 999), (30, 30), (30, 42), (30, 43), (30, 44), (1, 1), (1, 3), (1, 10), (1, 13), (8, 0), (30, 49), (2, 15), (8, 1)]
set_option maxHeartbeats 8000000 in
theorem hp_X9_takes0 {ro : ab_R} {G : Nat → Nat} {fz : List (Nat × Nat)} {F : ab_W → Prop} (hF : ∀ w w', smt G w w' → F w → F w') {pc pp : Nat} {fc fp : Nat → Int32} {tk e bd io fw lw : Int32} (hok : pa_ok fc fp e io fw lw) (htk : 0 ≤ tk.toInt ∧ tk.toInt ≤ e.toInt) (hfz : ∀ q ∈ fz, q ∈ fb_hp_X9_takes0) (d : Nat) : hx_ct ro sp_ G (F9 G F) fz (ab_Ev ro ab_codes (d + 2)) 152 [(2, 30, 0), (0, 1, 355)] (some (0, 0, 1)) (paP pc pp fc fp tk e bd io fw lw) (fun as _ v w1 => ∀ (o : Nat) (c z : Int32), as = [.ref o, .int c] → v = some (.int z) → (z.toInt = 1 ∧ bd.toInt = -1 ∧ gc (cd fc) e.toInt.toNat tk.toInt.toNat = c.toInt ∧ ∃ t : Int32, pa_st w1 o pc pp fc fp t e bd io fw lw ∧ t.toInt = tk.toInt + 1 ∧ t.toInt ≤ e.toInt) ∨ (z.toInt = 0 ∧ ¬ (bd.toInt = -1 ∧ gc (cd fc) e.toInt.toNat tk.toInt.toNat = c.toInt) ∧ pa_st w1 o pc pp fc fp tk e bd io fw lw)) := by
  have hFF := F9_same hF
  refine hx_hand (d := d + 1) (by decide) (fun as w hw hf has hP => ?_)
  match as, has with
  | [v0, v1], ⟨h0, h1, _⟩ =>
    obtain ⟨o, rfl, _, hG0⟩ := ty_refn h0 rfl rfl
    replace hG0 : G o = 30 := hG0
    obtain ⟨c, rfl, hl1, hh1⟩ := ty_int h1 rfl
    replace hl1 : (1 : Int) ≤ c.toInt := hl1
    replace hh1 : c.toInt ≤ 355 := hh1
    refine ⟨rfl, ?_⟩
    obtain ⟨fs0, g0, i15, i17, i19, i18, i21, i10, i8, i9, gc0, gp0⟩ := hP o rfl
    obtain ⟨⟨he0, he1⟩, hz0, hpl, -, -⟩ := id hok
    have hfw := pa_fw hok
    have hG_pc := pa_r15 hw g0 hG0 i15
    have hG_pp := pa_r17 hw g0 hG0 i17
    change ab_wp ro (ab_Ev ro ab_codes (d + 1)) 9 false (some .boolean) ab_k_X9_takes0 (fun o_1 => ∃ v w1, o_1 = (v, w1, 0, 0) ∧ ty_w sp_ G w1 ∧ (F9 G F) w1 ∧ ty_same G fz w w1 ∧ ck_res G (some (0, 0, 1)) v ∧ (fun as _ v w1 => ∀ (o : Nat) (c z : Int32), as = [.ref o, .int c] → v = some (.int z) → (z.toInt = 1 ∧ bd.toInt = -1 ∧ gc (cd fc) e.toInt.toNat tk.toInt.toNat = c.toInt ∧ ∃ t : Int32, pa_st w1 o pc pp fc fp t e bd io fw lw ∧ t.toInt = tk.toInt + 1 ∧ t.toInt ≤ e.toInt) ∨ (z.toInt = 0 ∧ ¬ (bd.toInt = -1 ∧ gc (cd fc) e.toInt.toNat tk.toInt.toNat = c.toInt) ∧ pa_st w1 o pc pp fc fp tk e bd io fw lw)) ([.ref o, .int c] : List Value) w v w1) (0, [some (.ref o), some (.int c), none], [], w, 0, 0)
    refine ax_go 1 (y := (1, [some (.ref o), some (.int c), none], [.ref o], w, 0, 0)) rfl trivial ?_
    refine hx_pi (l := 4) (as := [.ref o]) rfl rfl (hx_iv (j := 150) (n := 0) (o := o) (r := []) rfl rfl g0 rfl) (hp_X9_fine (fz := fz) hF (fun q hq => (by decide +kernel : ∀ q ∈ fb_hp_X9_takes0, q ∈ fb_hp_X9_fine) q (hfz q hq)) (d + 0)) hw hf ⟨(hx_tr (G := G) (s := 30) (b := 0) hG0 (by decide)), trivial⟩ trivial (fun w1 z6 hw2 hf3 m4 a7 b8 u9 => ?_)
    rw [u9.1]
    have u10 := u9.2 _ _ _ rfl ⟨_, g0, i21⟩ rfl
    clear u9
    rcases u10 with ⟨hz11, hb12⟩ | ⟨hz11, hb12⟩
    · -- fine 1
      refine hx_if_eq (l := 7) rfl rfl (fun h13 => by omega) (fun h13 => ?_)
      refine ax_go 1 (y := (8, [some (.ref o), some (.int c), none], [.ref o], w, 0, 0)) rfl trivial ?_
      refine hx_gf (l := 11) rfl rfl rfl g0 i15 ?_
      refine ax_go 1 (y := (12, [some (.ref o), some (.int c), none], [.ref o, .ref pc], w, 0, 0)) rfl trivial ?_
      refine hx_gf (l := 15) rfl rfl rfl g0 i19 ?_
      have r14 := hx_rq hw gc0 hG_pc (s := 39) rfl
      refine hx_il (l := 16) rfl rfl gc0 (by omega) (by omega) (fun z15 h16 => ?_)
      have u17 : gc (cd fc) e.toInt.toNat tk.toInt.toNat = z15.toInt := by rw [pa_gc hok ⟨by omega, by omega⟩, h16]
      refine ax_go 1 (y := (17, [some (.ref o), some (.int c), none], [.int c, .int z15], w, 0, 0)) rfl trivial ?_
      refine hx_ic_ne (l := 20) rfl rfl (fun h18 => ?_) (fun h18 => ?_)
      · -- 24
        refine hx_k (l := 25) (m := 0) rfl rfl (by decide) (fun z19 h20 => ?_)
        refine ax_go 2 (y := (27, [some (.ref o), some (.int c), some (.int z19)], [.int z19], w, 0, 0)) rfl trivial ?_
        refine hx_if_eq (l := 30) rfl rfl (fun h21 => ?_) (fun h21 => by omega)
        refine ax_go 1 (y := (41, [some (.ref o), some (.int c), some (.int z19)], [.int z19], w, 0, 0)) rfl trivial ?_
        exact ax_ret rfl rfl ⟨hx_01 (by omega) (by omega), trivial⟩ ⟨some (.int z19), _, rfl, hw, hf, (ty_same_rf w), (hx_ti (G := G) (lo := 0) (hi := 1) (by omega) (by omega)), (fun o1 c1 z1 h1 h2 => by cases h1; cases h2; exact Or.inr ⟨by omega, by omega, ⟨_, g0, i15, i17, i19, i18, i21, i10, i8, i9, gc0, gp0⟩⟩)⟩
      · -- 20
        have lt22 := gc_lt (c := cd fc) (e := e.toInt.toNat) (p := tk.toInt.toNat) (by omega)
        refine hx_k (l := 21) (m := 1) rfl rfl (by decide) (fun z23 h24 => ?_)
        refine ax_go 3 (y := (27, [some (.ref o), some (.int c), some (.int z23)], [.int z23], w, 0, 0)) rfl trivial ?_
        refine hx_if_eq (l := 30) rfl rfl (fun h25 => by omega) (fun h25 => ?_)
        refine ax_go 2 (y := (32, [some (.ref o), some (.int c), some (.int z23)], [.ref o, .ref o], w, 0, 0)) rfl trivial ?_
        refine hx_gf (l := 35) rfl rfl rfl g0 i19 ?_
        refine hx_k (l := 36) (m := 1) rfl rfl (by decide) (fun z26 h27 => ?_)
        refine hx_add (l := 37) rfl rfl (fun z28 h29 => ?_)
        replace h29 := h29 (by omega) (by omega)
        refine hx_pf (q := (0, 0, 0, 0, 0, 400)) (s := 30) (l := 40) (v := .int z28) rfl rfl rfl (by decide) rfl rfl rfl hw hG0 g0 trivial (hx_ti (G := G) (lo := 0) (hi := 400) (by omega) (by omega)) (fun w30 fs31 g32 e33 o34 n35 hw36 n37 => ?_)
        have hs38 := ty_same_tr (ty_same_rf w) (n37 fz (hx_ok hfz (by decide)))
        have hf39 := hFF _ _ (n37 pr_ (by decide)) hf
        refine ax_go 1 (y := (41, [some (.ref o), some (.int c), some (.int z23)], [.int z23], w30, 0, 0)) rfl trivial ?_
        exact ax_ret rfl rfl ⟨hx_01 (by omega) (by omega), trivial⟩ ⟨some (.int z23), _, rfl, hw36, hf39, hs38, (hx_ti (G := G) (lo := 0) (hi := 1) (by omega) (by omega)), (fun o1 c1 z1 h1 h2 => by cases h1; cases h2; exact Or.inl ⟨by omega, by omega, by omega, z28, ⟨_, g32, ((o34 15 (by decide)).trans i15), ((o34 17 (by decide)).trans i17), e33, ((o34 18 (by decide)).trans i18), ((o34 21 (by decide)).trans i21), ((o34 10 (by decide)).trans i10), ((o34 8 (by decide)).trans i8), ((o34 9 (by decide)).trans i9), ((n35 _ (hx_ne hG_pc hG0 (by decide))).trans gc0), ((n35 _ (hx_ne hG_pp hG0 (by decide))).trans gp0)⟩, by omega, by omega⟩)⟩
    · -- fine 0
      refine hx_if_eq (l := 7) rfl rfl (fun h40 => ?_) (fun h40 => by omega)
      refine hx_k (l := 25) (m := 0) rfl rfl (by decide) (fun z41 h42 => ?_)
      refine ax_go 2 (y := (27, [some (.ref o), some (.int c), some (.int z41)], [.int z41], w, 0, 0)) rfl trivial ?_
      refine hx_if_eq (l := 30) rfl rfl (fun h43 => ?_) (fun h43 => by omega)
      refine ax_go 1 (y := (41, [some (.ref o), some (.int c), some (.int z41)], [.int z41], w, 0, 0)) rfl trivial ?_
      exact ax_ret rfl rfl ⟨hx_01 (by omega) (by omega), trivial⟩ ⟨some (.int z41), _, rfl, hw, hf, (ty_same_rf w), (hx_ti (G := G) (lo := 0) (hi := 1) (by omega) (by omega)), (fun o1 c1 z1 h1 h2 => by cases h1; cases h2; exact Or.inr ⟨by omega, by omega, ⟨_, g0, i15, i17, i19, i18, i21, i10, i8, i9, gc0, gp0⟩⟩)⟩
def fb_hp_X9_must : List (Nat × Nat) := [(8, 3), (8, 5), (19, 999), (32, 999), (33, 999), (34, 999), (35, 999), (44, 999), (45, 999), (1, 0), (18, 999), (2, 11), (2, 14), (1, 15), (54, 11), (4, 2), (7, 9), (30, 13), (30, 34), (30, 2), (30, 22), (30, 23), (30, 24), (30, 25), (46, 999), (47, 999), (30, 35), (30, 36), (7, 0), (24, 999), (37, 999), (30, 4), (30, 5), (30, 6), (30, 8), (30, 9), (30, 10), (30, 11), (30, 14), (30, 15), (30, 16), (30, 17), (30, 18), (30, 20), (39, 999), (40, 999), (41, 999), (30, 30), (30, 42), (30, 43), (30, 44), (1, 1), (1, 3), (1, 10), (1, 13), (8, 0), (30, 49), (2, 15), (8, 1)]
set_option maxHeartbeats 8000000 in
theorem hp_X9_must {ro : ab_R} {G : Nat → Nat} {fz : List (Nat × Nat)} {F : ab_W → Prop} (hF : ∀ w w', smt G w w' → F w → F w') {pc pp : Nat} {fc fp : Nat → Int32} {tk e bd io fw lw : Int32} (hok : pa_ok fc fp e io fw lw) (htk : 0 ≤ tk.toInt ∧ tk.toInt ≤ e.toInt) (hfz : ∀ q ∈ fz, q ∈ fb_hp_X9_must) (d : Nat) : hx_ct ro sp_ G (F9 G F) fz (ab_Ev ro ab_codes (d + 3)) 153 [(2, 30, 0), (0, 1, 355)] none (paP pc pp fc fp tk e bd io fw lw) (fun as w v w1 => ∀ (o : Nat) (c : Int32), as = [.ref o, .int c] → paR pc pp fc fp tk e bd io fw lw (fun t => gc (cd fc) e.toInt.toNat tk.toInt.toNat = c.toInt ∧ t.toInt = tk.toInt + 1) as w v w1) := by
  have hFF := F9_same hF
  refine hx_hand (d := d + 2) (by decide) (fun as w hw hf has hP => ?_)
  match as, has with
  | [v0, v1], ⟨h0, h1, _⟩ =>
    obtain ⟨o, rfl, _, hG0⟩ := ty_refn h0 rfl rfl
    replace hG0 : G o = 30 := hG0
    obtain ⟨c, rfl, hl1, hh1⟩ := ty_int h1 rfl
    replace hl1 : (1 : Int) ≤ c.toInt := hl1
    replace hh1 : c.toInt ≤ 355 := hh1
    refine ⟨rfl, ?_⟩
    obtain ⟨fs0, g0, i15, i17, i19, i18, i21, i10, i8, i9, gc0, gp0⟩ := hP o rfl
    obtain ⟨⟨he0, he1⟩, hz0, hpl, -, -⟩ := id hok
    have hfw := pa_fw hok
    have hG_pc := pa_r15 hw g0 hG0 i15
    have hG_pp := pa_r17 hw g0 hG0 i17
    change ab_wp ro (ab_Ev ro ab_codes (d + 2)) 9 false none ab_k_X9_must (fun o_1 => ∃ v w1, o_1 = (v, w1, 0, 0) ∧ ty_w sp_ G w1 ∧ (F9 G F) w1 ∧ ty_same G fz w w1 ∧ ck_res G none v ∧ (fun as w v w1 => ∀ (o : Nat) (c : Int32), as = [.ref o, .int c] → paR pc pp fc fp tk e bd io fw lw (fun t => gc (cd fc) e.toInt.toNat tk.toInt.toNat = c.toInt ∧ t.toInt = tk.toInt + 1) as w v w1) ([.ref o, .int c] : List Value) w v w1) (0, [some (.ref o), some (.int c)], [], w, 0, 0)
    refine ax_go 2 (y := (2, [some (.ref o), some (.int c)], [.int c, .ref o], w, 0, 0)) rfl trivial ?_
    refine hx_pi (l := 5) (as := [.ref o, .int c]) rfl rfl (hx_iv (j := 152) (n := 1) (o := o) (r := []) rfl rfl g0 rfl) (hp_X9_takes0 (fz := fz) hF (pc := pc) (pp := pp) (fc := fc) (fp := fp) (tk := tk) (e := e) (bd := bd) (io := io) (fw := fw) (lw := lw) hok ⟨by omega, by omega⟩ (fun q hq => (by decide +kernel : ∀ q ∈ fb_hp_X9_must, q ∈ fb_hp_X9_takes0) q (hfz q hq)) (d + 0)) hw hf ⟨(hx_tr (G := G) (s := 30) (b := 0) hG0 (by decide)), (hx_ti (G := G) (lo := 1) (hi := 355) (by omega) (by omega)), trivial⟩ (fun o1 h1 => by cases h1; exact ⟨_, g0, i15, i17, i19, i18, i21, i10, i8, i9, gc0, gp0⟩) (fun w1 z6 hw2 hf3 m4 a7 b8 u9 => ?_)
    have hs5 := ty_same_tr (ty_same_rf w) m4
    rcases u9 _ _ _ rfl rfl with ⟨hz22, hb23, hg24, tN25, ⟨fsN10, gA11, iA12, iB13, iC14, iD15, iE16, iF17, iG18, iH19, gC20, gP21⟩, ht26, hu27⟩ | ⟨hz22, hg24, ⟨fsN10, gA11, iA12, iB13, iC14, iD15, iE16, iF17, iG18, iH19, gC20, gP21⟩⟩
    · -- taken 1
      refine hx_if_ne (l := 8) rfl rfl (fun h28 => ?_) (fun h28 => by omega)
      exact ax_ret rfl rfl trivial ⟨none, _, rfl, hw2, hf3, hs5, trivial, (fun o0 c0 h0 => by cases h0; exact (fun o1 h1 => by cases h1; exact ⟨tN25, bd, ⟨_, gA11, iA12, iB13, iC14, iD15, iE16, iF17, iG18, iH19, gC20, gP21⟩, ⟨by omega, by omega⟩, by (try dsimp only); exact (fun hb => ⟨by omega, by omega, by omega⟩)⟩))⟩
    · -- taken 0
      refine hx_if_ne (l := 8) rfl rfl (fun h29 => by omega) (fun h29 => ?_)
      refine ax_go 1 (y := (9, [some (.ref o), some (.int c)], [.ref o], w1, 0, 0)) rfl trivial ?_
      refine hx_p0 (l := 12) (as := [.ref o]) rfl rfl (hx_iv (j := 151) (n := 0) (o := o) (r := []) rfl rfl gA11 rfl) (hp_X9_faults (fz := fz) hF (pc := pc) (pp := pp) (fc := fc) (fp := fp) (tk := tk) (e := e) (bd := bd) (io := io) (fw := fw) (lw := lw) hok ⟨by omega, by omega⟩ (fun q hq => (by decide +kernel : ∀ q ∈ fb_hp_X9_must, q ∈ fb_hp_X9_faults) q (hfz q hq)) (d + 0)) hw2 hf3 ⟨(hx_tr (G := G) (s := 30) (b := 0) hG0 (by decide)), trivial⟩ (fun o1 h1 => by cases h1; exact ⟨_, gA11, iA12, iB13, iC14, iD15, iE16, iF17, iG18, iH19, gC20, gP21⟩) (fun w30 hw31 hf32 m33 u38 => ?_)
      have hs34 := ty_same_tr hs5 m33
      obtain ⟨bN51, ⟨fsN39, gA40, iA41, iB42, iC43, iD44, iE45, iF46, iG47, iH48, gC49, gP50⟩, hN52⟩ := u38 _ rfl
      exact ax_ret rfl rfl trivial ⟨none, _, rfl, hw31, hf32, hs34, trivial, (fun o0 c0 h0 => by cases h0; exact (fun o1 h1 => by cases h1; exact ⟨tk, bN51, ⟨_, gA40, iA41, iB42, iC43, iD44, iE45, iF46, iG47, iH48, gC49, gP50⟩, ⟨by omega, by omega⟩, by (try dsimp only); exact (fun hb => absurd hb (by omega))⟩))⟩
def fb_hp_X9_leaf : List (Nat × Nat) := [(8, 3), (8, 5), (19, 999), (32, 999), (33, 999), (34, 999), (35, 999), (44, 999), (45, 999), (1, 0), (18, 999), (2, 11), (2, 14), (1, 15), (54, 11), (4, 2), (7, 9), (30, 13), (30, 34), (30, 2), (30, 22), (30, 23), (30, 24), (30, 25), (46, 999), (47, 999), (30, 35), (30, 36), (7, 0), (24, 999), (37, 999), (30, 4), (30, 5), (30, 6), (30, 8), (30, 9), (30, 10), (30, 11), (30, 14), (30, 15), (30, 16), (30, 17), (30, 18), (39, 999), (40, 999), (41, 999), (30, 30), (30, 42), (30, 43), (30, 44), (1, 1), (1, 3), (1, 10), (1, 13), (8, 0), (30, 49), (2, 15), (8, 1)]
set_option maxHeartbeats 8000000 in
theorem hp_X9_leaf {ro : ab_R} {G : Nat → Nat} {fz : List (Nat × Nat)} {F : ab_W → Prop} (hF : ∀ w w', smt G w w' → F w → F w') {pc pp : Nat} {fc fp : Nat → Int32} {tk e bd io fw lw : Int32} (hok : pa_ok fc fp e io fw lw) (htk : 0 ≤ tk.toInt ∧ tk.toInt ≤ e.toInt) (hc0 : ¬ gc (cd fc) e.toInt.toNat tk.toInt.toNat = 0) (hfz : ∀ q ∈ fz, q ∈ fb_hp_X9_leaf) (d : Nat) : hx_ct ro sp_ G (F9 G F) fz (ab_Ev ro ab_codes (d + 3)) 154 [(2, 30, 0)] none (paP pc pp fc fp tk e bd io fw lw) (paR pc pp fc fp tk e bd io fw lw (fun t => t.toInt = tk.toInt + 1)) := by
  have hFF := F9_same hF
  refine hx_hand (d := d + 2) (by decide) (fun as w hw hf has hP => ?_)
  match as, has with
  | [v0], ⟨h0, _⟩ =>
    obtain ⟨o, rfl, _, hG0⟩ := ty_refn h0 rfl rfl
    replace hG0 : G o = 30 := hG0
    refine ⟨rfl, ?_⟩
    obtain ⟨fs0, g0, i15, i17, i19, i18, i21, i10, i8, i9, gc0, gp0⟩ := hP o rfl
    obtain ⟨⟨he0, he1⟩, hz0, hpl, -, -⟩ := id hok
    have hfw := pa_fw hok
    have hG_pc := pa_r15 hw g0 hG0 i15
    have hG_pp := pa_r17 hw g0 hG0 i17
    change ab_wp ro (ab_Ev ro ab_codes (d + 2)) 9 false none ab_k_X9_leaf (fun o_1 => ∃ v w1, o_1 = (v, w1, 0, 0) ∧ ty_w sp_ G w1 ∧ (F9 G F) w1 ∧ ty_same G fz w w1 ∧ ck_res G none v ∧ (paR pc pp fc fp tk e bd io fw lw (fun t => t.toInt = tk.toInt + 1)) ([.ref o] : List Value) w v w1) (0, [some (.ref o)], [], w, 0, 0)
    refine ax_go 1 (y := (1, [some (.ref o)], [.ref o], w, 0, 0)) rfl trivial ?_
    have q1 := hx_oq hw g0 hG0 (s := 30) rfl
    obtain ⟨x2, e3, a4, b5⟩ := hx_fi (k := 20) (lo := (-2147483648)) (hi := 2147483647) q1 rfl
    refine hx_gf (l := 4) rfl rfl rfl g0 e3 ?_
    refine hx_k (l := 6) (m := 50) rfl rfl (by decide) (fun z6 h7 => ?_)
    refine hx_ic_ne (l := 9) rfl rfl (fun h8 => ?_) (fun h8 => ?_)
    · -- 13
      refine ax_go 2 (y := (15, [some (.ref o)], [.ref o, .ref o], w, 0, 0)) rfl trivial ?_
      refine hx_gf (l := 18) rfl rfl rfl g0 e3 ?_
      refine hx_k (l := 19) (m := 1) rfl rfl (by decide) (fun z9 h10 => ?_)
      refine hx_add (l := 20) rfl rfl (fun z11 h12 => ?_)
      refine hx_pf (q := (0, 0, 0, 0, (-2147483648), 2147483647)) (s := 30) (l := 23) (v := .int z11) rfl rfl rfl (by decide) rfl rfl rfl hw hG0 g0 trivial (ck_top_ok (G := G) z11) (fun w13 fs14 g15 e16 o17 n18 hw19 n20 => ?_)
      have hs21 := ty_same_tr (ty_same_rf w) (n20 fz (hx_ok hfz (by decide)))
      have hf22 := hFF _ _ (n20 pr_ (by decide)) hf
      refine ax_go 1 (y := (24, [some (.ref o)], [.ref o], w13, 0, 0)) rfl trivial ?_
      refine hx_pi (l := 27) (as := [.ref o]) rfl rfl (hx_iv (j := 150) (n := 0) (o := o) (r := []) rfl rfl g15 rfl) (hp_X9_fine (fz := fz) hF (fun q hq => (by decide +kernel : ∀ q ∈ fb_hp_X9_leaf, q ∈ fb_hp_X9_fine) q (hfz q hq)) (d + 1)) hw19 hf22 ⟨(hx_tr (G := G) (s := 30) (b := 0) hG0 (by decide)), trivial⟩ trivial (fun w23 z28 hw24 hf25 m26 a29 b30 u31 => ?_)
      rw [u31.1]
      have u32 := u31.2 _ _ _ rfl ⟨_, g15, ((o17 21 (by decide)).trans i21)⟩ rfl
      clear u31
      rcases u32 with ⟨hz33, hb34⟩ | ⟨hz33, hb34⟩
      · -- fine 1
        refine hx_if_eq (l := 30) rfl rfl (fun h35 => by omega) (fun h35 => ?_)
        have lt36 := gc_lt (c := cd fc) (e := e.toInt.toNat) (p := tk.toInt.toNat) (by omega)
        refine ax_go 2 (y := (32, [some (.ref o)], [.ref o, .ref o], w13, 0, 0)) rfl trivial ?_
        refine hx_gf (l := 35) rfl rfl rfl g15 ((o17 19 (by decide)).trans i19) ?_
        refine hx_k (l := 36) (m := 1) rfl rfl (by decide) (fun z37 h38 => ?_)
        refine hx_add (l := 37) rfl rfl (fun z39 h40 => ?_)
        replace h40 := h40 (by omega) (by omega)
        refine hx_pf (q := (0, 0, 0, 0, 0, 400)) (s := 30) (l := 40) (v := .int z39) rfl rfl rfl (by decide) rfl rfl rfl hw19 hG0 g15 trivial (hx_ti (G := G) (lo := 0) (hi := 400) (by omega) (by omega)) (fun w41 fs42 g43 e44 o45 n46 hw47 n48 => ?_)
        have hs49 := ty_same_tr hs21 (n48 fz (hx_ok hfz (by decide)))
        have hf50 := hFF _ _ (n48 pr_ (by decide)) hf22
        exact ax_ret rfl rfl trivial ⟨none, _, rfl, hw47, hf50, hs49, trivial, (fun o1 h1 => by cases h1; exact ⟨z39, bd, ⟨_, g43, ((o45 15 (by decide)).trans ((o17 15 (by decide)).trans i15)), ((o45 17 (by decide)).trans ((o17 17 (by decide)).trans i17)), e44, ((o45 18 (by decide)).trans ((o17 18 (by decide)).trans i18)), ((o45 21 (by decide)).trans ((o17 21 (by decide)).trans i21)), ((o45 10 (by decide)).trans ((o17 10 (by decide)).trans i10)), ((o45 8 (by decide)).trans ((o17 8 (by decide)).trans i8)), ((o45 9 (by decide)).trans ((o17 9 (by decide)).trans i9)), ((n46 _ (hx_ne hG_pc hG0 (by decide))).trans ((n18 _ (hx_ne hG_pc hG0 (by decide))).trans gc0)), ((n46 _ (hx_ne hG_pp hG0 (by decide))).trans ((n18 _ (hx_ne hG_pp hG0 (by decide))).trans gp0))⟩, ⟨by omega, by omega⟩, by (try dsimp only); exact (fun hb => ⟨by omega, by omega⟩)⟩)⟩
      · -- fine 0
        refine hx_if_eq (l := 30) rfl rfl (fun h51 => ?_) (fun h51 => by omega)
        exact ax_ret rfl rfl trivial ⟨none, _, rfl, hw19, hf22, hs21, trivial, (fun o1 h1 => by cases h1; exact ⟨tk, bd, ⟨_, g15, ((o17 15 (by decide)).trans i15), ((o17 17 (by decide)).trans i17), ((o17 19 (by decide)).trans i19), ((o17 18 (by decide)).trans i18), ((o17 21 (by decide)).trans i21), ((o17 10 (by decide)).trans i10), ((o17 8 (by decide)).trans i8), ((o17 9 (by decide)).trans i9), ((n18 _ (hx_ne hG_pc hG0 (by decide))).trans gc0), ((n18 _ (hx_ne hG_pp hG0 (by decide))).trans gp0)⟩, ⟨by omega, by omega⟩, by (try dsimp only); exact (fun hb => absurd hb (by omega))⟩)⟩
    · -- 9
      refine ax_go 1 (y := (10, [some (.ref o)], [.ref o], w, 0, 0)) rfl trivial ?_
      refine hx_p0 (l := 13) (as := [.ref o]) rfl rfl (hx_iv (j := 151) (n := 0) (o := o) (r := []) rfl rfl g0 rfl) (hp_X9_faults (fz := fz) hF (pc := pc) (pp := pp) (fc := fc) (fp := fp) (tk := tk) (e := e) (bd := bd) (io := io) (fw := fw) (lw := lw) hok ⟨by omega, by omega⟩ (fun q hq => (by decide +kernel : ∀ q ∈ fb_hp_X9_leaf, q ∈ fb_hp_X9_faults) q (hfz q hq)) (d + 0)) hw hf ⟨(hx_tr (G := G) (s := 30) (b := 0) hG0 (by decide)), trivial⟩ (fun o1 h1 => by cases h1; exact ⟨_, g0, i15, i17, i19, i18, i21, i10, i8, i9, gc0, gp0⟩) (fun w52 hw53 hf54 m55 u60 => ?_)
      have hs56 := ty_same_tr (ty_same_rf w) m55
      obtain ⟨bN73, ⟨fsN61, gA62, iA63, iB64, iC65, iD66, iE67, iF68, iG69, iH70, gC71, gP72⟩, hN74⟩ := u60 _ rfl
      refine ax_go 2 (y := (15, [some (.ref o)], [.ref o, .ref o], w52, 0, 0)) rfl trivial ?_
      have q75 := hx_oq hw53 gA62 hG0 (s := 30) rfl
      obtain ⟨x76, e77, a78, b79⟩ := hx_fi (k := 20) (lo := (-2147483648)) (hi := 2147483647) q75 rfl
      refine hx_gf (l := 18) rfl rfl rfl gA62 e77 ?_
      refine hx_k (l := 19) (m := 1) rfl rfl (by decide) (fun z80 h81 => ?_)
      refine hx_add (l := 20) rfl rfl (fun z82 h83 => ?_)
      refine hx_pf (q := (0, 0, 0, 0, (-2147483648), 2147483647)) (s := 30) (l := 23) (v := .int z82) rfl rfl rfl (by decide) rfl rfl rfl hw53 hG0 gA62 trivial (ck_top_ok (G := G) z82) (fun w84 fs85 g86 e87 o88 n89 hw90 n91 => ?_)
      have hs92 := ty_same_tr hs56 (n91 fz (hx_ok hfz (by decide)))
      have hf93 := hFF _ _ (n91 pr_ (by decide)) hf54
      refine ax_go 1 (y := (24, [some (.ref o)], [.ref o], w84, 0, 0)) rfl trivial ?_
      refine hx_pi (l := 27) (as := [.ref o]) rfl rfl (hx_iv (j := 150) (n := 0) (o := o) (r := []) rfl rfl g86 rfl) (hp_X9_fine (fz := fz) hF (fun q hq => (by decide +kernel : ∀ q ∈ fb_hp_X9_leaf, q ∈ fb_hp_X9_fine) q (hfz q hq)) (d + 1)) hw90 hf93 ⟨(hx_tr (G := G) (s := 30) (b := 0) hG0 (by decide)), trivial⟩ trivial (fun w94 z99 hw95 hf96 m97 a100 b101 u102 => ?_)
      rw [u102.1]
      have u103 := u102.2 _ _ _ rfl ⟨_, g86, ((o88 21 (by decide)).trans iE67)⟩ rfl
      clear u102
      have hz104 : z99.toInt = 0 := by omega
      refine hx_if_eq (l := 30) rfl rfl (fun h105 => ?_) (fun h105 => by omega)
      exact ax_ret rfl rfl trivial ⟨none, _, rfl, hw90, hf93, hs92, trivial, (fun o1 h1 => by cases h1; exact ⟨tk, bN73, ⟨_, g86, ((o88 15 (by decide)).trans iA63), ((o88 17 (by decide)).trans iB64), ((o88 19 (by decide)).trans iC65), ((o88 18 (by decide)).trans iD66), ((o88 21 (by decide)).trans iE67), ((o88 10 (by decide)).trans iF68), ((o88 8 (by decide)).trans iG69), ((o88 9 (by decide)).trans iH70), ((n89 _ (hx_ne hG_pc hG0 (by decide))).trans gC71), ((n89 _ (hx_ne hG_pp hG0 (by decide))).trans gP72)⟩, ⟨by omega, by omega⟩, by (try dsimp only); exact (fun hb => absurd hb (by omega))⟩)⟩
def fb_hp_X9_mustNumber : List (Nat × Nat) := [(8, 3), (8, 5), (19, 999), (32, 999), (33, 999), (34, 999), (35, 999), (44, 999), (45, 999), (1, 0), (18, 999), (2, 11), (2, 14), (1, 15), (54, 11), (4, 2), (7, 9), (30, 13), (30, 34), (30, 2), (30, 22), (30, 23), (30, 24), (30, 25), (46, 999), (47, 999), (30, 35), (30, 36), (7, 0), (24, 999), (37, 999), (30, 4), (30, 5), (30, 6), (30, 8), (30, 9), (30, 10), (30, 11), (30, 14), (30, 15), (30, 16), (30, 17), (30, 18), (30, 20), (39, 999), (40, 999), (41, 999), (30, 30), (30, 42), (30, 43), (30, 44), (1, 1), (1, 3), (1, 10), (1, 13), (8, 0), (30, 49), (2, 15), (8, 1)]
set_option maxHeartbeats 8000000 in
theorem hp_X9_mustNumber {ro : ab_R} {G : Nat → Nat} {fz : List (Nat × Nat)} {F : ab_W → Prop} (hF : ∀ w w', smt G w w' → F w → F w') {pc pp : Nat} {fc fp : Nat → Int32} {tk e bd io fw lw : Int32} (hok : pa_ok fc fp e io fw lw) (htk : 0 ≤ tk.toInt ∧ tk.toInt ≤ e.toInt) (hfz : ∀ q ∈ fz, q ∈ fb_hp_X9_mustNumber) (d : Nat) : hx_ct ro sp_ G (F9 G F) fz (ab_Ev ro ab_codes (d + 3)) 156 [(2, 30, 0), (0, (-2147483648), 2147483647), (0, (-2147483648), 2147483647)] none (paP pc pp fc fp tk e bd io fw lw) (paR pc pp fc fp tk e bd io fw lw (fun t => gc (cd fc) e.toInt.toNat tk.toInt.toNat = 50 ∧ t.toInt = tk.toInt + 1)) := by
  have hFF := F9_same hF
  refine hx_hand (d := d + 2) (by decide) (fun as w hw hf has hP => ?_)
  match as, has with
  | [v0, v1, v2], ⟨h0, h1, h2, _⟩ =>
    obtain ⟨o, rfl, _, hG0⟩ := ty_refn h0 rfl rfl
    replace hG0 : G o = 30 := hG0
    obtain ⟨lo, rfl, hl1, hh1⟩ := ty_int h1 rfl
    replace hl1 : ((-2147483648) : Int) ≤ lo.toInt := hl1
    replace hh1 : lo.toInt ≤ 2147483647 := hh1
    obtain ⟨hi, rfl, hl2, hh2⟩ := ty_int h2 rfl
    replace hl2 : ((-2147483648) : Int) ≤ hi.toInt := hl2
    replace hh2 : hi.toInt ≤ 2147483647 := hh2
    refine ⟨rfl, ?_⟩
    obtain ⟨fs0, g0, i15, i17, i19, i18, i21, i10, i8, i9, gc0, gp0⟩ := hP o rfl
    obtain ⟨⟨he0, he1⟩, hz0, hpl, -, -⟩ := id hok
    have hfw := pa_fw hok
    have hG_pc := pa_r15 hw g0 hG0 i15
    have hG_pp := pa_r17 hw g0 hG0 i17
    change ab_wp ro (ab_Ev ro ab_codes (d + 2)) 9 false none ab_k_X9_mustNumber (fun o_1 => ∃ v w1, o_1 = (v, w1, 0, 0) ∧ ty_w sp_ G w1 ∧ (F9 G F) w1 ∧ ty_same G fz w w1 ∧ ck_res G none v ∧ (paR pc pp fc fp tk e bd io fw lw (fun t => gc (cd fc) e.toInt.toNat tk.toInt.toNat = 50 ∧ t.toInt = tk.toInt + 1)) ([.ref o, .int lo, .int hi] : List Value) w v w1) (0, [some (.ref o), some (.int lo), some (.int hi)], [], w, 0, 0)
    refine ax_go 1 (y := (1, [some (.ref o), some (.int lo), some (.int hi)], [.ref o], w, 0, 0)) rfl trivial ?_
    refine hx_pi (l := 4) (as := [.ref o]) rfl rfl (hx_iv (j := 150) (n := 0) (o := o) (r := []) rfl rfl g0 rfl) (hp_X9_fine (fz := fz) hF (fun q hq => (by decide +kernel : ∀ q ∈ fb_hp_X9_mustNumber, q ∈ fb_hp_X9_fine) q (hfz q hq)) (d + 1)) hw hf ⟨(hx_tr (G := G) (s := 30) (b := 0) hG0 (by decide)), trivial⟩ trivial (fun w1 z6 hw2 hf3 m4 a7 b8 u9 => ?_)
    rw [u9.1]
    have u10 := u9.2 _ _ _ rfl ⟨_, g0, i21⟩ rfl
    clear u9
    rcases u10 with ⟨hz11, hb12⟩ | ⟨hz11, hb12⟩
    · -- fine 1
      refine hx_if_eq (l := 7) rfl rfl (fun h13 => by omega) (fun h13 => ?_)
      refine ax_go 1 (y := (8, [some (.ref o), some (.int lo), some (.int hi)], [.ref o], w, 0, 0)) rfl trivial ?_
      refine hx_gf (l := 11) rfl rfl rfl g0 i15 ?_
      refine ax_go 1 (y := (12, [some (.ref o), some (.int lo), some (.int hi)], [.ref o, .ref pc], w, 0, 0)) rfl trivial ?_
      refine hx_gf (l := 15) rfl rfl rfl g0 i19 ?_
      have r14 := hx_rq hw gc0 hG_pc (s := 39) rfl
      refine hx_il (l := 16) rfl rfl gc0 (by omega) (by omega) (fun z15 h16 => ?_)
      have u17 : gc (cd fc) e.toInt.toNat tk.toInt.toNat = z15.toInt := by rw [pa_gc hok ⟨by omega, by omega⟩, h16]
      refine hx_k (l := 18) (m := 50) rfl rfl (by decide) (fun z18 h19 => ?_)
      refine hx_ic_ne (l := 21) rfl rfl (fun h20 => ?_) (fun h20 => ?_)
      · -- 38
        refine ax_go 1 (y := (39, [some (.ref o), some (.int lo), some (.int hi)], [.ref o], w, 0, 0)) rfl trivial ?_
        refine hx_p0 (l := 42) (as := [.ref o]) rfl rfl (hx_iv (j := 151) (n := 0) (o := o) (r := []) rfl rfl g0 rfl) (hp_X9_faults (fz := fz) hF (pc := pc) (pp := pp) (fc := fc) (fp := fp) (tk := tk) (e := e) (bd := bd) (io := io) (fw := fw) (lw := lw) hok ⟨by omega, by omega⟩ (fun q hq => (by decide +kernel : ∀ q ∈ fb_hp_X9_mustNumber, q ∈ fb_hp_X9_faults) q (hfz q hq)) (d + 0)) hw hf ⟨(hx_tr (G := G) (s := 30) (b := 0) hG0 (by decide)), trivial⟩ (fun o1 h1 => by cases h1; exact ⟨_, g0, i15, i17, i19, i18, i21, i10, i8, i9, gc0, gp0⟩) (fun w21 hw22 hf23 m24 u29 => ?_)
        have hs25 := ty_same_tr (ty_same_rf w) m24
        obtain ⟨bN42, ⟨fsN30, gA31, iA32, iB33, iC34, iD35, iE36, iF37, iG38, iH39, gC40, gP41⟩, hN43⟩ := u29 _ rfl
        refine ax_go 1 (y := (43, [some (.ref o), some (.int lo), some (.int hi)], [.ref o], w21, 0, 0)) rfl trivial ?_
        refine hx_pi (l := 46) (as := [.ref o]) rfl rfl (hx_iv (j := 150) (n := 0) (o := o) (r := []) rfl rfl gA31 rfl) (hp_X9_fine (fz := fz) hF (fun q hq => (by decide +kernel : ∀ q ∈ fb_hp_X9_mustNumber, q ∈ fb_hp_X9_fine) q (hfz q hq)) (d + 1)) hw22 hf23 ⟨(hx_tr (G := G) (s := 30) (b := 0) hG0 (by decide)), trivial⟩ trivial (fun w44 z49 hw45 hf46 m47 a50 b51 u52 => ?_)
        rw [u52.1]
        have u53 := u52.2 _ _ _ rfl ⟨_, gA31, iE36⟩ rfl
        clear u52
        have hz54 : z49.toInt = 0 := by omega
        refine hx_if_eq (l := 49) rfl rfl (fun h55 => ?_) (fun h55 => by omega)
        exact ax_ret rfl rfl trivial ⟨none, _, rfl, hw22, hf23, hs25, trivial, (fun o1 h1 => by cases h1; exact ⟨tk, bN42, ⟨_, gA31, iA32, iB33, iC34, iD35, iE36, iF37, iG38, iH39, gC40, gP41⟩, ⟨by omega, by omega⟩, by (try dsimp only); exact (fun hb => absurd hb (by omega))⟩)⟩
      · -- 21
        refine ax_go 1 (y := (22, [some (.ref o), some (.int lo), some (.int hi)], [.ref o], w, 0, 0)) rfl trivial ?_
        have q56 := hx_oq hw g0 hG0 (s := 30) rfl
        obtain ⟨p57, e58, hG59⟩ := hx_fr (k := 16) (s := 40) q56 rfl
        refine hx_gf (l := 25) rfl rfl rfl g0 e58 ?_
        refine ax_go 1 (y := (26, [some (.ref o), some (.int lo), some (.int hi)], [.ref o, .ref p57], w, 0, 0)) rfl trivial ?_
        refine hx_gf (l := 29) rfl rfl rfl g0 i19 ?_
        obtain ⟨f60, g61, r62⟩ := hx_row hw hG59 (s := 40) (kd := 0) (n := 401) rfl (by decide)
        refine hx_il (l := 30) rfl rfl g61 (by omega) (by omega) (fun z63 h64 => ?_)
        refine ax_go 2 (y := (32, [some (.ref o), some (.int lo), some (.int hi)], [.int hi, .int lo, .int z63], w, 0, 0)) rfl trivial ?_
        refine hx_pi (l := 35) (as := [.int z63, .int lo, .int hi]) rfl rfl rfl (hp_X9_lies (fz := fz) hFF (fun q hq => (by decide +kernel : ∀ q ∈ fb_hp_X9_mustNumber, q ∈ fb_hp_X9_lies) q (hfz q hq)) (d + 1)) hw hf ⟨(ck_top_ok (G := G) z63), (ck_top_ok (G := G) lo), (ck_top_ok (G := G) hi), trivial⟩ trivial (fun w65 z70 hw66 hf67 m68 a71 b72 u73 => ?_)
        rw [u73.1]
        have u74 := u73.2 _ _ _ _ rfl rfl
        clear u73
        refine hx_if_ne (l := 38) rfl rfl (fun h75 => ?_) (fun h75 => ?_)
        · -- 42
          replace u74 := u74.1 (by omega)
          refine ax_go 1 (y := (43, [some (.ref o), some (.int lo), some (.int hi)], [.ref o], w, 0, 0)) rfl trivial ?_
          refine hx_pi (l := 46) (as := [.ref o]) rfl rfl (hx_iv (j := 150) (n := 0) (o := o) (r := []) rfl rfl g0 rfl) (hp_X9_fine (fz := fz) hF (fun q hq => (by decide +kernel : ∀ q ∈ fb_hp_X9_mustNumber, q ∈ fb_hp_X9_fine) q (hfz q hq)) (d + 1)) hw hf ⟨(hx_tr (G := G) (s := 30) (b := 0) hG0 (by decide)), trivial⟩ trivial (fun w76 z81 hw77 hf78 m79 a82 b83 u84 => ?_)
          rw [u84.1]
          have u85 := u84.2 _ _ _ rfl ⟨_, g0, i21⟩ rfl
          clear u84
          have hz86 : z81.toInt = 1 := by omega
          refine hx_if_eq (l := 49) rfl rfl (fun h87 => by omega) (fun h87 => ?_)
          have lt88 := gc_lt (c := cd fc) (e := e.toInt.toNat) (p := tk.toInt.toNat) (by omega)
          refine ax_go 2 (y := (51, [some (.ref o), some (.int lo), some (.int hi)], [.ref o, .ref o], w, 0, 0)) rfl trivial ?_
          refine hx_gf (l := 54) rfl rfl rfl g0 i19 ?_
          refine hx_k (l := 55) (m := 1) rfl rfl (by decide) (fun z89 h90 => ?_)
          refine hx_add (l := 56) rfl rfl (fun z91 h92 => ?_)
          replace h92 := h92 (by omega) (by omega)
          refine hx_pf (q := (0, 0, 0, 0, 0, 400)) (s := 30) (l := 59) (v := .int z91) rfl rfl rfl (by decide) rfl rfl rfl hw hG0 g0 trivial (hx_ti (G := G) (lo := 0) (hi := 400) (by omega) (by omega)) (fun w93 fs94 g95 e96 o97 n98 hw99 n100 => ?_)
          have hs101 := ty_same_tr (ty_same_rf w) (n100 fz (hx_ok hfz (by decide)))
          have hf102 := hFF _ _ (n100 pr_ (by decide)) hf
          exact ax_ret rfl rfl trivial ⟨none, _, rfl, hw99, hf102, hs101, trivial, (fun o1 h1 => by cases h1; exact ⟨z91, bd, ⟨_, g95, ((o97 15 (by decide)).trans i15), ((o97 17 (by decide)).trans i17), e96, ((o97 18 (by decide)).trans i18), ((o97 21 (by decide)).trans i21), ((o97 10 (by decide)).trans i10), ((o97 8 (by decide)).trans i8), ((o97 9 (by decide)).trans i9), ((n98 _ (hx_ne hG_pc hG0 (by decide))).trans gc0), ((n98 _ (hx_ne hG_pp hG0 (by decide))).trans gp0)⟩, ⟨by omega, by omega⟩, by (try dsimp only); exact (fun hb => ⟨by omega, by omega, by omega⟩)⟩)⟩
        · -- 38
          clear u74
          refine ax_go 1 (y := (39, [some (.ref o), some (.int lo), some (.int hi)], [.ref o], w, 0, 0)) rfl trivial ?_
          refine hx_p0 (l := 42) (as := [.ref o]) rfl rfl (hx_iv (j := 151) (n := 0) (o := o) (r := []) rfl rfl g0 rfl) (hp_X9_faults (fz := fz) hF (pc := pc) (pp := pp) (fc := fc) (fp := fp) (tk := tk) (e := e) (bd := bd) (io := io) (fw := fw) (lw := lw) hok ⟨by omega, by omega⟩ (fun q hq => (by decide +kernel : ∀ q ∈ fb_hp_X9_mustNumber, q ∈ fb_hp_X9_faults) q (hfz q hq)) (d + 0)) hw hf ⟨(hx_tr (G := G) (s := 30) (b := 0) hG0 (by decide)), trivial⟩ (fun o1 h1 => by cases h1; exact ⟨_, g0, i15, i17, i19, i18, i21, i10, i8, i9, gc0, gp0⟩) (fun w103 hw104 hf105 m106 u111 => ?_)
          have hs107 := ty_same_tr (ty_same_rf w) m106
          obtain ⟨bN124, ⟨fsN112, gA113, iA114, iB115, iC116, iD117, iE118, iF119, iG120, iH121, gC122, gP123⟩, hN125⟩ := u111 _ rfl
          refine ax_go 1 (y := (43, [some (.ref o), some (.int lo), some (.int hi)], [.ref o], w103, 0, 0)) rfl trivial ?_
          refine hx_pi (l := 46) (as := [.ref o]) rfl rfl (hx_iv (j := 150) (n := 0) (o := o) (r := []) rfl rfl gA113 rfl) (hp_X9_fine (fz := fz) hF (fun q hq => (by decide +kernel : ∀ q ∈ fb_hp_X9_mustNumber, q ∈ fb_hp_X9_fine) q (hfz q hq)) (d + 1)) hw104 hf105 ⟨(hx_tr (G := G) (s := 30) (b := 0) hG0 (by decide)), trivial⟩ trivial (fun w126 z131 hw127 hf128 m129 a132 b133 u134 => ?_)
          rw [u134.1]
          have u135 := u134.2 _ _ _ rfl ⟨_, gA113, iE118⟩ rfl
          clear u134
          have hz136 : z131.toInt = 0 := by omega
          refine hx_if_eq (l := 49) rfl rfl (fun h137 => ?_) (fun h137 => by omega)
          exact ax_ret rfl rfl trivial ⟨none, _, rfl, hw104, hf105, hs107, trivial, (fun o1 h1 => by cases h1; exact ⟨tk, bN124, ⟨_, gA113, iA114, iB115, iC116, iD117, iE118, iF119, iG120, iH121, gC122, gP123⟩, ⟨by omega, by omega⟩, by (try dsimp only); exact (fun hb => absurd hb (by omega))⟩)⟩
    · -- fine 0
      refine hx_if_eq (l := 7) rfl rfl (fun h138 => ?_) (fun h138 => by omega)
      refine ax_go 1 (y := (43, [some (.ref o), some (.int lo), some (.int hi)], [.ref o], w, 0, 0)) rfl trivial ?_
      refine hx_pi (l := 46) (as := [.ref o]) rfl rfl (hx_iv (j := 150) (n := 0) (o := o) (r := []) rfl rfl g0 rfl) (hp_X9_fine (fz := fz) hF (fun q hq => (by decide +kernel : ∀ q ∈ fb_hp_X9_mustNumber, q ∈ fb_hp_X9_fine) q (hfz q hq)) (d + 1)) hw hf ⟨(hx_tr (G := G) (s := 30) (b := 0) hG0 (by decide)), trivial⟩ trivial (fun w139 z144 hw140 hf141 m142 a145 b146 u147 => ?_)
      rw [u147.1]
      have u148 := u147.2 _ _ _ rfl ⟨_, g0, i21⟩ rfl
      clear u147
      have hz149 : z144.toInt = 0 := by omega
      refine hx_if_eq (l := 49) rfl rfl (fun h150 => ?_) (fun h150 => by omega)
      exact ax_ret rfl rfl trivial ⟨none, _, rfl, hw, hf, (ty_same_rf w), trivial, (fun o1 h1 => by cases h1; exact ⟨tk, bd, ⟨_, g0, i15, i17, i19, i18, i21, i10, i8, i9, gc0, gp0⟩, ⟨by omega, by omega⟩, by (try dsimp only); exact (fun hb => absurd hb (by omega))⟩)⟩
