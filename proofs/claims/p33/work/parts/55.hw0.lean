/-! walks by program -/
def fb_X1_has0 : List (Nat × Nat) := [(8, 3), (8, 5), (19, 999), (32, 999), (33, 999), (34, 999), (35, 999), (44, 999), (45, 999), (1, 0), (18, 999), (2, 11), (2, 14), (1, 15), (54, 11), (4, 2), (7, 9), (30, 13), (30, 34), (30, 2), (30, 22), (30, 23), (30, 24), (30, 25), (46, 999), (47, 999), (30, 35), (30, 36), (7, 0), (24, 999), (37, 999), (30, 4), (30, 5), (30, 6), (30, 8), (30, 9), (30, 10), (30, 11), (30, 14), (30, 15), (30, 16), (30, 17), (30, 18), (30, 19), (30, 20), (30, 21), (39, 999), (40, 999), (41, 999), (30, 30), (30, 42), (30, 43), (30, 44), (1, 1), (1, 3), (1, 10), (1, 13), (8, 0), (30, 49), (2, 15), (8, 1)]
set_option maxHeartbeats 8000000 in
theorem h_X1_has0 {ro : ab_R} {G : Nat → Nat} {fz : List (Nat × Nat)} {F : ab_W → Prop} (hF : ∀ w w', ty_same G pr_ w w' → F w → F w') (hfz : ∀ q ∈ fz, q ∈ fb_X1_has0) (d : Nat) : ck_ct ro sp_ G F fz (ab_Ev ro ab_codes (d + 1)) 5 [(2, 2, 0), (0, (-2147483648), 2147483647)] (some (0, 0, 1)) 2 10000000001009 := by
  refine ck_hand (d := d + 0) (by decide) (fun as w hw hf has => ?_)
  match as, has with
  | [v0, v1], ⟨h0, h1, _⟩ =>
    obtain ⟨o, rfl, _, hG0⟩ := ty_refn h0 rfl rfl
    replace hG0 : G o = 2 := hG0
    obtain ⟨p, rfl, hl1, hh1⟩ := ty_int h1 rfl
    replace hl1 : ((-2147483648) : Int) ≤ p.toInt := hl1
    replace hh1 : p.toInt ≤ 2147483647 := hh1
    refine ⟨rfl, ?_⟩
    change ab_wp ro (ab_Ev ro ab_codes d) 1 false (some .boolean) ab_k_X1_has (fun o_1 => ∃ v w1, o_1 = (v, w1, 0, 0) ∧ ty_w sp_ G w1 ∧ F w1 ∧ ty_same G fz w w1 ∧ ck_res G (some (0, 0, 1)) v ∧ ck_wit 2 10000000001009 [.ref o, .int p] v) (0, [some (.ref o), some (.int p)], [], w, 0, 0)
    refine ax_go 1 (y := (1, [some (.ref o), some (.int p)], [.int p], w, 0, 0)) rfl trivial ?_
    refine hx_if_lt (l := 4) rfl rfl (fun h1 => ?_) (fun h1 => ?_)
    · -- 22
      refine hx_k (l := 23) (m := 0) rfl rfl (by decide) (fun z2 h3 => ?_)
      exact ax_ret rfl rfl ⟨hx_01 (by omega) (by omega), trivial⟩ ⟨some (.int z2), _, rfl, hw, hf, (ty_same_rf w), (hx_ti (G := G) (lo := 0) (hi := 1) (by omega) (by omega)), (hx_mkw (a := 1) (lo := 0) (hi := 9) rfl rfl (fun hz => ⟨by omega, by omega⟩))⟩
    · -- 4
      refine ax_go 2 (y := (6, [some (.ref o), some (.int p)], [.ref o, .int p], w, 0, 0)) rfl trivial ?_
      obtain ⟨fs4, g5, -, q6⟩ := hx_obj hw hG0 (s := 2) rfl (by decide)
      obtain ⟨x7, e8, a9, b10⟩ := hx_fi (k := 11) (lo := 0) (hi := 10) q6 rfl
      refine hx_gf (l := 9) rfl rfl rfl g5 e8 ?_
      refine hx_ic_ge (l := 12) rfl rfl (fun h11 => ?_) (fun h11 => ?_)
      · -- 22
        refine hx_k (l := 23) (m := 0) rfl rfl (by decide) (fun z12 h13 => ?_)
        exact ax_ret rfl rfl ⟨hx_01 (by omega) (by omega), trivial⟩ ⟨some (.int z12), _, rfl, hw, hf, (ty_same_rf w), (hx_ti (G := G) (lo := 0) (hi := 1) (by omega) (by omega)), (hx_mkw (a := 1) (lo := 0) (hi := 9) rfl rfl (fun hz => ⟨by omega, by omega⟩))⟩
      · -- 12
        refine ax_go 1 (y := (13, [some (.ref o), some (.int p)], [.int p], w, 0, 0)) rfl trivial ?_
        refine hx_k (l := 15) (m := 10) rfl rfl (by decide) (fun z14 h15 => ?_)
        refine hx_ic_ge (l := 18) rfl rfl (fun h16 => ?_) (fun h16 => ?_)
        · -- 22
          refine hx_k (l := 23) (m := 0) rfl rfl (by decide) (fun z17 h18 => ?_)
          exact ax_ret rfl rfl ⟨hx_01 (by omega) (by omega), trivial⟩ ⟨some (.int z17), _, rfl, hw, hf, (ty_same_rf w), (hx_ti (G := G) (lo := 0) (hi := 1) (by omega) (by omega)), (hx_mkw (a := 1) (lo := 0) (hi := 9) rfl rfl (fun hz => ⟨by omega, by omega⟩))⟩
        · -- 18
          refine hx_k (l := 19) (m := 1) rfl rfl (by decide) (fun z19 h20 => ?_)
          refine ax_go 1 (y := (23, [some (.ref o), some (.int p)], [.int z19], w, 0, 0)) rfl trivial ?_
          exact ax_ret rfl rfl ⟨hx_01 (by omega) (by omega), trivial⟩ ⟨some (.int z19), _, rfl, hw, hf, (ty_same_rf w), (hx_ti (G := G) (lo := 0) (hi := 1) (by omega) (by omega)), (hx_mkw (a := 1) (lo := 0) (hi := 9) rfl rfl (fun hz => ⟨by omega, by omega⟩))⟩
def fb_X1_has1 : List (Nat × Nat) := [(8, 3), (8, 5), (19, 999), (32, 999), (33, 999), (34, 999), (35, 999), (44, 999), (45, 999), (1, 0), (18, 999), (2, 11), (2, 14), (1, 15), (54, 11), (4, 2), (7, 9), (30, 13), (30, 34), (30, 2), (30, 22), (30, 23), (30, 24), (30, 25), (46, 999), (47, 999), (30, 35), (30, 36), (7, 0), (24, 999), (37, 999), (30, 4), (30, 5), (30, 6), (30, 8), (30, 9), (30, 10), (30, 11), (30, 14), (30, 15), (30, 16), (30, 17), (30, 18), (30, 19), (30, 20), (30, 21), (39, 999), (40, 999), (41, 999), (30, 30), (30, 42), (30, 43), (30, 44), (1, 1), (1, 3), (1, 10), (1, 13), (8, 0), (30, 49), (2, 15), (8, 1)]
set_option maxHeartbeats 8000000 in
theorem h_X1_has1 {ro : ab_R} {G : Nat → Nat} {fz : List (Nat × Nat)} {F : ab_W → Prop} (hF : ∀ w w', ty_same G pr_ w w' → F w → F w') (hfz : ∀ q ∈ fz, q ∈ fb_X1_has1) (d : Nat) : ck_ct ro sp_ G F fz (ab_Ev ro ab_codes (d + 1)) 5 [(2, 54, 0), (0, (-2147483648), 2147483647)] (some (0, 0, 1)) 2 10000000001009 := by
  refine ck_hand (d := d + 0) (by decide) (fun as w hw hf has => ?_)
  match as, has with
  | [v0, v1], ⟨h0, h1, _⟩ =>
    obtain ⟨o, rfl, _, hG0⟩ := ty_refn h0 rfl rfl
    replace hG0 : G o = 54 := hG0
    obtain ⟨p, rfl, hl1, hh1⟩ := ty_int h1 rfl
    replace hl1 : ((-2147483648) : Int) ≤ p.toInt := hl1
    replace hh1 : p.toInt ≤ 2147483647 := hh1
    refine ⟨rfl, ?_⟩
    change ab_wp ro (ab_Ev ro ab_codes d) 1 false (some .boolean) ab_k_X1_has (fun o_1 => ∃ v w1, o_1 = (v, w1, 0, 0) ∧ ty_w sp_ G w1 ∧ F w1 ∧ ty_same G fz w w1 ∧ ck_res G (some (0, 0, 1)) v ∧ ck_wit 2 10000000001009 [.ref o, .int p] v) (0, [some (.ref o), some (.int p)], [], w, 0, 0)
    refine ax_go 1 (y := (1, [some (.ref o), some (.int p)], [.int p], w, 0, 0)) rfl trivial ?_
    refine hx_if_lt (l := 4) rfl rfl (fun h1 => ?_) (fun h1 => ?_)
    · -- 22
      refine hx_k (l := 23) (m := 0) rfl rfl (by decide) (fun z2 h3 => ?_)
      exact ax_ret rfl rfl ⟨hx_01 (by omega) (by omega), trivial⟩ ⟨some (.int z2), _, rfl, hw, hf, (ty_same_rf w), (hx_ti (G := G) (lo := 0) (hi := 1) (by omega) (by omega)), (hx_mkw (a := 1) (lo := 0) (hi := 9) rfl rfl (fun hz => ⟨by omega, by omega⟩))⟩
    · -- 4
      refine ax_go 2 (y := (6, [some (.ref o), some (.int p)], [.ref o, .int p], w, 0, 0)) rfl trivial ?_
      obtain ⟨fs4, g5, -, q6⟩ := hx_obj hw hG0 (s := 54) rfl (by decide)
      obtain ⟨x7, e8, a9, b10⟩ := hx_fi (k := 11) (lo := 0) (hi := 10) q6 rfl
      refine hx_gf (l := 9) rfl rfl rfl g5 e8 ?_
      refine hx_ic_ge (l := 12) rfl rfl (fun h11 => ?_) (fun h11 => ?_)
      · -- 22
        refine hx_k (l := 23) (m := 0) rfl rfl (by decide) (fun z12 h13 => ?_)
        exact ax_ret rfl rfl ⟨hx_01 (by omega) (by omega), trivial⟩ ⟨some (.int z12), _, rfl, hw, hf, (ty_same_rf w), (hx_ti (G := G) (lo := 0) (hi := 1) (by omega) (by omega)), (hx_mkw (a := 1) (lo := 0) (hi := 9) rfl rfl (fun hz => ⟨by omega, by omega⟩))⟩
      · -- 12
        refine ax_go 1 (y := (13, [some (.ref o), some (.int p)], [.int p], w, 0, 0)) rfl trivial ?_
        refine hx_k (l := 15) (m := 10) rfl rfl (by decide) (fun z14 h15 => ?_)
        refine hx_ic_ge (l := 18) rfl rfl (fun h16 => ?_) (fun h16 => ?_)
        · -- 22
          refine hx_k (l := 23) (m := 0) rfl rfl (by decide) (fun z17 h18 => ?_)
          exact ax_ret rfl rfl ⟨hx_01 (by omega) (by omega), trivial⟩ ⟨some (.int z17), _, rfl, hw, hf, (ty_same_rf w), (hx_ti (G := G) (lo := 0) (hi := 1) (by omega) (by omega)), (hx_mkw (a := 1) (lo := 0) (hi := 9) rfl rfl (fun hz => ⟨by omega, by omega⟩))⟩
        · -- 18
          refine hx_k (l := 19) (m := 1) rfl rfl (by decide) (fun z19 h20 => ?_)
          refine ax_go 1 (y := (23, [some (.ref o), some (.int p)], [.int z19], w, 0, 0)) rfl trivial ?_
          exact ax_ret rfl rfl ⟨hx_01 (by omega) (by omega), trivial⟩ ⟨some (.int z19), _, rfl, hw, hf, (ty_same_rf w), (hx_ti (G := G) (lo := 0) (hi := 1) (by omega) (by omega)), (hx_mkw (a := 1) (lo := 0) (hi := 9) rfl rfl (fun hz => ⟨by omega, by omega⟩))⟩
def fb_X7_part0 : List (Nat × Nat) := [(8, 3), (8, 5), (19, 999), (32, 999), (33, 999), (34, 999), (35, 999), (44, 999), (45, 999), (1, 0), (18, 999), (2, 11), (2, 14), (1, 15), (54, 11), (4, 2), (7, 9), (30, 13), (30, 34), (30, 2), (30, 22), (30, 23), (30, 24), (30, 25), (46, 999), (47, 999), (30, 35), (30, 36), (7, 0), (24, 999), (37, 999), (30, 4), (30, 5), (30, 6), (30, 8), (30, 9), (30, 10), (30, 11), (30, 14), (30, 15), (30, 16), (30, 17), (30, 18), (30, 19), (30, 20), (30, 21), (39, 999), (40, 999), (41, 999), (30, 30), (30, 42), (30, 43), (30, 44), (1, 1), (1, 3), (1, 10), (1, 13), (8, 0), (30, 49), (2, 15), (8, 1)]
set_option maxHeartbeats 8000000 in
theorem h_X7_part0 {ro : ab_R} {G : Nat → Nat} {fz : List (Nat × Nat)} {F : ab_W → Prop} (hF : ∀ w w', ty_same G pr_ w w' → F w → F w') (hfz : ∀ q ∈ fz, q ∈ fb_X7_part0) (d : Nat) : ck_ct ro sp_ G F fz (ab_Ev ro ab_codes (d + 1)) 77 [(2, 10, 0), (0, (-2147483648), 2147483647), (0, (-2147483648), 2147483647)] (some (0, (-2147483648), 2147483647)) 0 0 := by
  refine ck_hand (d := d + 0) (by decide) (fun as w hw hf has => ?_)
  match as, has with
  | [v0, v1, v2], ⟨h0, h1, h2, _⟩ =>
    obtain ⟨o, rfl, _, hG0⟩ := ty_refn h0 rfl rfl
    replace hG0 : G o = 10 := hG0
    obtain ⟨c, rfl, hl1, hh1⟩ := ty_int h1 rfl
    replace hl1 : ((-2147483648) : Int) ≤ c.toInt := hl1
    replace hh1 : c.toInt ≤ 2147483647 := hh1
    obtain ⟨f, rfl, hl2, hh2⟩ := ty_int h2 rfl
    replace hl2 : ((-2147483648) : Int) ≤ f.toInt := hl2
    replace hh2 : f.toInt ≤ 2147483647 := hh2
    refine ⟨rfl, ?_⟩
    change ab_wp ro (ab_Ev ro ab_codes d) 7 false (some .int) ab_k_X7_part (fun o_1 => ∃ v w1, o_1 = (v, w1, 0, 0) ∧ ty_w sp_ G w1 ∧ F w1 ∧ ty_same G fz w w1 ∧ ck_res G (some (0, (-2147483648), 2147483647)) v ∧ ck_wit 0 0 [.ref o, .int c, .int f] v) (0, [some (.ref o), some (.int c), some (.int f), none], [], w, 0, 0)
    refine ax_go 1 (y := (1, [some (.ref o), some (.int c), some (.int f), none], [.int c], w, 0, 0)) rfl trivial ?_
    refine hx_k (l := 2) (m := 5) rfl rfl (by decide) (fun z1 h2 => ?_)
    refine hx_mul (l := 3) rfl rfl (fun z3 h4 => ?_)
    rw [h2] at h4
    refine ax_go 1 (y := (4, [some (.ref o), some (.int c), some (.int f), none], [.int f, .int z3], w, 0, 0)) rfl trivial ?_
    refine hx_add (l := 5) rfl rfl (fun z5 h6 => ?_)
    refine ax_go 2 (y := (7, [some (.ref o), some (.int c), some (.int f), some (.int z5)], [.int z5], w, 0, 0)) rfl trivial ?_
    refine hx_if_lt (l := 10) rfl rfl (fun h7 => ?_) (fun h7 => ?_)
    · -- 28
      refine hx_k (l := 29) (m := (-1)) rfl rfl (by decide) (fun z8 h9 => ?_)
      exact ax_ret rfl rfl trivial ⟨some (.int z8), _, rfl, hw, hf, (ty_same_rf w), (ck_top_ok (G := G) z8), trivial⟩
    · -- 10
      refine ax_go 2 (y := (12, [some (.ref o), some (.int c), some (.int f), some (.int z5)], [.ref o, .int z5], w, 0, 0)) rfl trivial ?_
      obtain ⟨fs10, g11, -, q12⟩ := hx_obj hw hG0 (s := 10) rfl (by decide)
      obtain ⟨p13, e14, hG15⟩ := hx_fr (k := 1) (s := 28) q12 rfl
      refine hx_gf (l := 15) rfl rfl rfl g11 e14 ?_
      obtain ⟨m19, f16, g17, r18⟩ := hx_rowA hw hG15 (s := 28) (kd := 0) (n := 60) rfl (by decide)
      refine hx_len (l := 16) rfl rfl g17 rfl (by omega) (fun z20 h21 => ?_)
      refine hx_ic_ge (l := 19) rfl rfl (fun h22 => ?_) (fun h22 => ?_)
      · -- 28
        refine hx_k (l := 29) (m := (-1)) rfl rfl (by decide) (fun z23 h24 => ?_)
        exact ax_ret rfl rfl trivial ⟨some (.int z23), _, rfl, hw, hf, (ty_same_rf w), (ck_top_ok (G := G) z23), trivial⟩
      · -- 19
        refine ax_go 1 (y := (20, [some (.ref o), some (.int c), some (.int f), some (.int z5)], [.ref o], w, 0, 0)) rfl trivial ?_
        refine hx_gf (l := 23) rfl rfl rfl g11 e14 ?_
        refine ax_go 1 (y := (24, [some (.ref o), some (.int c), some (.int f), some (.int z5)], [.int z5, .ref p13], w, 0, 0)) rfl trivial ?_
        refine hx_il (l := 25) rfl rfl g17 (by omega) (by omega) (fun z25 h26 => ?_)
        refine ax_go 1 (y := (29, [some (.ref o), some (.int c), some (.int f), some (.int z5)], [.int z25], w, 0, 0)) rfl trivial ?_
        exact ax_ret rfl rfl trivial ⟨some (.int z25), _, rfl, hw, hf, (ty_same_rf w), (ck_top_ok (G := G) z25), trivial⟩
def fb_X7_part1 : List (Nat × Nat) := [(8, 3), (8, 5), (19, 999), (32, 999), (33, 999), (34, 999), (35, 999), (44, 999), (45, 999), (1, 0), (18, 999), (2, 11), (2, 14), (1, 15), (54, 11), (4, 2), (7, 9), (30, 13), (30, 34), (30, 2), (30, 22), (30, 23), (30, 24), (30, 25), (46, 999), (47, 999), (30, 35), (30, 36), (7, 0), (24, 999), (37, 999), (30, 4), (30, 5), (30, 6), (30, 8), (30, 9), (30, 10), (30, 11), (30, 14), (30, 15), (30, 16), (30, 17), (30, 18), (30, 19), (30, 20), (30, 21), (39, 999), (40, 999), (41, 999), (30, 30), (30, 42), (30, 43), (30, 44), (1, 1), (1, 3), (1, 10), (1, 13), (8, 0), (30, 49), (2, 15), (8, 1)]
set_option maxHeartbeats 8000000 in
theorem h_X7_part1 {ro : ab_R} {G : Nat → Nat} {fz : List (Nat × Nat)} {F : ab_W → Prop} (hF : ∀ w w', ty_same G pr_ w w' → F w → F w') (hfz : ∀ q ∈ fz, q ∈ fb_X7_part1) (d : Nat) : ck_ct ro sp_ G F fz (ab_Ev ro ab_codes (d + 1)) 77 [(2, 9, 0), (0, (-2147483648), 2147483647), (0, (-2147483648), 2147483647)] (some (0, (-2147483648), 2147483647)) 0 0 := by
  refine ck_hand (d := d + 0) (by decide) (fun as w hw hf has => ?_)
  match as, has with
  | [v0, v1, v2], ⟨h0, h1, h2, _⟩ =>
    obtain ⟨o, rfl, _, hG0⟩ := ty_refn h0 rfl rfl
    replace hG0 : G o = 9 := hG0
    obtain ⟨c, rfl, hl1, hh1⟩ := ty_int h1 rfl
    replace hl1 : ((-2147483648) : Int) ≤ c.toInt := hl1
    replace hh1 : c.toInt ≤ 2147483647 := hh1
    obtain ⟨f, rfl, hl2, hh2⟩ := ty_int h2 rfl
    replace hl2 : ((-2147483648) : Int) ≤ f.toInt := hl2
    replace hh2 : f.toInt ≤ 2147483647 := hh2
    refine ⟨rfl, ?_⟩
    change ab_wp ro (ab_Ev ro ab_codes d) 7 false (some .int) ab_k_X7_part (fun o_1 => ∃ v w1, o_1 = (v, w1, 0, 0) ∧ ty_w sp_ G w1 ∧ F w1 ∧ ty_same G fz w w1 ∧ ck_res G (some (0, (-2147483648), 2147483647)) v ∧ ck_wit 0 0 [.ref o, .int c, .int f] v) (0, [some (.ref o), some (.int c), some (.int f), none], [], w, 0, 0)
    refine ax_go 1 (y := (1, [some (.ref o), some (.int c), some (.int f), none], [.int c], w, 0, 0)) rfl trivial ?_
    refine hx_k (l := 2) (m := 5) rfl rfl (by decide) (fun z1 h2 => ?_)
    refine hx_mul (l := 3) rfl rfl (fun z3 h4 => ?_)
    rw [h2] at h4
    refine ax_go 1 (y := (4, [some (.ref o), some (.int c), some (.int f), none], [.int f, .int z3], w, 0, 0)) rfl trivial ?_
    refine hx_add (l := 5) rfl rfl (fun z5 h6 => ?_)
    refine ax_go 2 (y := (7, [some (.ref o), some (.int c), some (.int f), some (.int z5)], [.int z5], w, 0, 0)) rfl trivial ?_
    refine hx_if_lt (l := 10) rfl rfl (fun h7 => ?_) (fun h7 => ?_)
    · -- 28
      refine hx_k (l := 29) (m := (-1)) rfl rfl (by decide) (fun z8 h9 => ?_)
      exact ax_ret rfl rfl trivial ⟨some (.int z8), _, rfl, hw, hf, (ty_same_rf w), (ck_top_ok (G := G) z8), trivial⟩
    · -- 10
      refine ax_go 2 (y := (12, [some (.ref o), some (.int c), some (.int f), some (.int z5)], [.ref o, .int z5], w, 0, 0)) rfl trivial ?_
      obtain ⟨fs10, g11, -, q12⟩ := hx_obj hw hG0 (s := 9) rfl (by decide)
      obtain ⟨p13, e14, hG15⟩ := hx_fr (k := 1) (s := 26) q12 rfl
      refine hx_gf (l := 15) rfl rfl rfl g11 e14 ?_
      obtain ⟨f16, g17, r18⟩ := hx_row hw hG15 (s := 26) (kd := 0) (n := 60) rfl (by decide)
      refine hx_len (l := 16) rfl rfl g17 rfl (by omega) (fun z19 h20 => ?_)
      refine hx_ic_ge (l := 19) rfl rfl (fun h21 => ?_) (fun h21 => ?_)
      · -- 28
        refine hx_k (l := 29) (m := (-1)) rfl rfl (by decide) (fun z22 h23 => ?_)
        exact ax_ret rfl rfl trivial ⟨some (.int z22), _, rfl, hw, hf, (ty_same_rf w), (ck_top_ok (G := G) z22), trivial⟩
      · -- 19
        refine ax_go 1 (y := (20, [some (.ref o), some (.int c), some (.int f), some (.int z5)], [.ref o], w, 0, 0)) rfl trivial ?_
        refine hx_gf (l := 23) rfl rfl rfl g11 e14 ?_
        refine ax_go 1 (y := (24, [some (.ref o), some (.int c), some (.int f), some (.int z5)], [.int z5, .ref p13], w, 0, 0)) rfl trivial ?_
        refine hx_il (l := 25) rfl rfl g17 (by omega) (by omega) (fun z24 h25 => ?_)
        refine ax_go 1 (y := (29, [some (.ref o), some (.int c), some (.int f), some (.int z5)], [.int z24], w, 0, 0)) rfl trivial ?_
        exact ax_ret rfl rfl trivial ⟨some (.int z24), _, rfl, hw, hf, (ty_same_rf w), (ck_top_ok (G := G) z24), trivial⟩
def fb_X2_combined : List (Nat × Nat) := [(8, 3), (8, 5), (19, 999), (32, 999), (33, 999), (34, 999), (35, 999), (44, 999), (45, 999), (1, 0), (18, 999), (2, 11), (2, 14), (1, 15), (54, 11), (4, 2), (7, 9), (30, 13), (30, 34), (30, 2), (30, 22), (30, 23), (30, 24), (30, 25), (46, 999), (47, 999), (30, 35), (30, 36), (7, 0), (24, 999), (37, 999), (30, 4), (30, 5), (30, 6), (30, 8), (30, 9), (30, 10), (30, 11), (30, 14), (30, 15), (30, 16), (30, 17), (30, 18), (30, 19), (30, 20), (30, 21), (39, 999), (40, 999), (41, 999), (30, 30), (30, 42), (30, 43), (30, 44), (1, 1), (1, 3), (1, 10), (1, 13), (8, 0), (30, 49), (2, 15), (8, 1)]
set_option maxHeartbeats 8000000 in
theorem h_X2_combined {ro : ab_R} {G : Nat → Nat} {fz : List (Nat × Nat)} {F : ab_W → Prop} (hF : ∀ w w', ty_same G pr_ w w' → F w → F w') (hfz : ∀ q ∈ fz, q ∈ fb_X2_combined) (d : Nat) : ck_ct ro sp_ G F fz (ab_Ev ro ab_codes (d + 1)) 19 [(2, 5, 0), (0, (-2147483648), 2147483647), (1, (-9223372036854775808), 9223372036854775807), (1, (-9223372036854775808), 9223372036854775807)] (some (0, (-2147483648), 2147483647)) 0 0 := by
  refine ck_hand (d := d + 0) (by decide) (fun as w hw hf has => ?_)
  match as, has with
  | [v0, v1, v2, v3], ⟨h0, h1, h2, h3, _⟩ =>
    obtain ⟨o, rfl, _, hG0⟩ := ty_refn h0 rfl rfl
    replace hG0 : G o = 5 := hG0
    obtain ⟨wh, rfl, hl1, hh1⟩ := ty_int h1 rfl
    replace hl1 : ((-2147483648) : Int) ≤ wh.toInt := hl1
    replace hh1 : wh.toInt ≤ 2147483647 := hh1
    obtain ⟨a, rfl, hl2, hh2⟩ := ty_long h2 rfl
    obtain ⟨b, rfl, hl3, hh3⟩ := ty_long h3 rfl
    refine ⟨rfl, ?_⟩
    have ct152 : ∀ (w1 : ab_W) (c : Int64), ty_w sp_ G w1 → F w1 → ty_same G fz w w1 → ab_wp ro (ab_Ev ro ab_codes d) 2 false (some .int) ab_k_X2_combined (fun o_1 => ∃ v w1, o_1 = (v, w1, 0, 0) ∧ ty_w sp_ G w1 ∧ F w1 ∧ ty_same G fz w w1 ∧ ck_res G (some (0, (-2147483648), 2147483647)) v ∧ ck_wit 0 0 [.ref o, .int wh, .long a, .long b] v) (152, [some (.ref o), some (.int wh), some (.long a), none, some (.long b), none, some (.long c), none], [], w1, 0, 0) := by
      intro w1 c hw2 hf3 hs4
      refine ax_go 1 (y := (154, [some (.ref o), some (.int wh), some (.long a), none, some (.long b), none, some (.long c), none], [.long c], w1, 0, 0)) rfl trivial ?_
      refine hx_lk (l := 157) (m := 1000000000) rfl rfl (by decide) (fun z5 h6 => ?_)
      refine hx_lcmp (l := 158) rfl rfl (fun z7 h8 => ?_)
      refine hx_if_gt (l := 161) rfl rfl (fun h9 => ?_) (fun h9 => ?_)
      · -- 170
        refine ax_go 1 (y := (171, [some (.ref o), some (.int wh), some (.long a), none, some (.long b), none, some (.long c), none], [.ref o], w1, 0, 0)) rfl trivial ?_
        refine hx_k (l := 172) (m := 1) rfl rfl (by decide) (fun z10 h11 => ?_)
        obtain ⟨fs12, g13, -, q14⟩ := hx_obj hw2 hG0 (s := 5) rfl (by decide)
        refine hx_pf (q := (0, 0, 0, 0, 0, 1)) (s := 5) (l := 175) (v := .int z10) rfl rfl rfl (by decide) rfl rfl rfl hw2 hG0 g13 ⟨hx_01 (by omega) (by omega), trivial⟩ (hx_ti (G := G) (lo := 0) (hi := 1) (by omega) (by omega)) (fun w15 fs16 g17 e18 o19 n20 hw21 n22 => ?_)
        have hs23 := ty_same_tr hs4 (n22 fz (hx_ok hfz (by decide)))
        have hf24 := hF _ _ (n22 pr_ (by decide)) hf3
        refine ax_go 1 (y := (176, [some (.ref o), some (.int wh), some (.long a), none, some (.long b), none, some (.long c), none], [.ref o], w15, 0, 0)) rfl trivial ?_
        refine hx_gf (l := 179) rfl rfl rfl g17 e18 ?_
        refine hx_if_eq (l := 182) rfl rfl (fun h25 => by omega) (fun h25 => ?_)
        refine hx_k (l := 183) (m := 0) rfl rfl (by decide) (fun z26 h27 => ?_)
        refine ax_go 1 (y := (189, [some (.ref o), some (.int wh), some (.long a), none, some (.long b), none, some (.long c), none], [.int z26], w15, 0, 0)) rfl trivial ?_
        exact ax_ret rfl rfl trivial ⟨some (.int z26), _, rfl, hw21, hf24, hs23, (ck_top_ok (G := G) z26), trivial⟩
      · -- 161
        refine ax_go 1 (y := (163, [some (.ref o), some (.int wh), some (.long a), none, some (.long b), none, some (.long c), none], [.long c], w1, 0, 0)) rfl trivial ?_
        refine hx_lk (l := 166) (m := (-1000000000)) rfl rfl (by decide) (fun z28 h29 => ?_)
        refine hx_lcmp (l := 167) rfl rfl (fun z30 h31 => ?_)
        refine hx_if_ge (l := 170) rfl rfl (fun h32 => ?_) (fun h32 => ?_)
        · -- 175
          refine ax_go 1 (y := (176, [some (.ref o), some (.int wh), some (.long a), none, some (.long b), none, some (.long c), none], [.ref o], w1, 0, 0)) rfl trivial ?_
          obtain ⟨fs33, g34, -, q35⟩ := hx_obj hw2 hG0 (s := 5) rfl (by decide)
          obtain ⟨x36, e37, a38, b39⟩ := hx_fi (k := 1) (lo := 0) (hi := 1) q35 rfl
          refine hx_gf (l := 179) rfl rfl rfl g34 e37 ?_
          refine hx_if_eq (l := 182) rfl rfl (fun h40 => ?_) (fun h40 => ?_)
          · -- 186
            refine ax_go 1 (y := (188, [some (.ref o), some (.int wh), some (.long a), none, some (.long b), none, some (.long c), none], [.long c], w1, 0, 0)) rfl trivial ?_
            refine hx_any (l := 189) rfl rfl (fun z41 => ?_)
            exact ax_ret rfl rfl trivial ⟨some (.int z41), _, rfl, hw2, hf3, hs4, (ck_top_ok (G := G) z41), trivial⟩
          · -- 182
            refine hx_k (l := 183) (m := 0) rfl rfl (by decide) (fun z42 h43 => ?_)
            refine ax_go 1 (y := (189, [some (.ref o), some (.int wh), some (.long a), none, some (.long b), none, some (.long c), none], [.int z42], w1, 0, 0)) rfl trivial ?_
            exact ax_ret rfl rfl trivial ⟨some (.int z42), _, rfl, hw2, hf3, hs4, (ck_top_ok (G := G) z42), trivial⟩
        · -- 170
          refine ax_go 1 (y := (171, [some (.ref o), some (.int wh), some (.long a), none, some (.long b), none, some (.long c), none], [.ref o], w1, 0, 0)) rfl trivial ?_
          refine hx_k (l := 172) (m := 1) rfl rfl (by decide) (fun z44 h45 => ?_)
          obtain ⟨fs46, g47, -, q48⟩ := hx_obj hw2 hG0 (s := 5) rfl (by decide)
          refine hx_pf (q := (0, 0, 0, 0, 0, 1)) (s := 5) (l := 175) (v := .int z44) rfl rfl rfl (by decide) rfl rfl rfl hw2 hG0 g47 ⟨hx_01 (by omega) (by omega), trivial⟩ (hx_ti (G := G) (lo := 0) (hi := 1) (by omega) (by omega)) (fun w49 fs50 g51 e52 o53 n54 hw55 n56 => ?_)
          have hs57 := ty_same_tr hs4 (n56 fz (hx_ok hfz (by decide)))
          have hf58 := hF _ _ (n56 pr_ (by decide)) hf3
          refine ax_go 1 (y := (176, [some (.ref o), some (.int wh), some (.long a), none, some (.long b), none, some (.long c), none], [.ref o], w49, 0, 0)) rfl trivial ?_
          refine hx_gf (l := 179) rfl rfl rfl g51 e52 ?_
          refine hx_if_eq (l := 182) rfl rfl (fun h59 => by omega) (fun h59 => ?_)
          refine hx_k (l := 183) (m := 0) rfl rfl (by decide) (fun z60 h61 => ?_)
          refine ax_go 1 (y := (189, [some (.ref o), some (.int wh), some (.long a), none, some (.long b), none, some (.long c), none], [.int z60], w49, 0, 0)) rfl trivial ?_
          exact ax_ret rfl rfl trivial ⟨some (.int z60), _, rfl, hw55, hf58, hs57, (ck_top_ok (G := G) z60), trivial⟩
    have ct118 : ∀ (w62 : ab_W) (c : Int64), ty_w sp_ G w62 → F w62 → ty_same G fz w w62 → ab_wp ro (ab_Ev ro ab_codes d) 2 false (some .int) ab_k_X2_combined (fun o_1 => ∃ v w1, o_1 = (v, w1, 0, 0) ∧ ty_w sp_ G w1 ∧ F w1 ∧ ty_same G fz w w1 ∧ ck_res G (some (0, (-2147483648), 2147483647)) v ∧ ck_wit 0 0 [.ref o, .int wh, .long a, .long b] v) (118, [some (.ref o), some (.int wh), some (.long a), none, some (.long b), none, some (.long c), none], [], w62, 0, 0) := by
      intro w62 c hw63 hf64 hs65
      refine ax_go 1 (y := (120, [some (.ref o), some (.int wh), some (.long a), none, some (.long b), none, some (.long c), none], [.long b], w62, 0, 0)) rfl trivial ?_
      refine hx_lk (l := 121) (m := 0) rfl rfl (by decide) (fun z66 h67 => ?_)
      refine hx_lcmp (l := 122) rfl rfl (fun z68 h69 => ?_)
      refine hx_if_ne (l := 125) rfl rfl (fun h70 => ?_) (fun h70 => ?_)
      · -- 133
        refine ax_go 1 (y := (134, [some (.ref o), some (.int wh), some (.long a), none, some (.long b), none, some (.long c), none], [.int wh], w62, 0, 0)) rfl trivial ?_
        refine hx_k (l := 136) (m := 6) rfl rfl (by decide) (fun z71 h72 => ?_)
        refine hx_ic_ne (l := 139) rfl rfl (fun h73 => ?_) (fun h73 => ?_)
        · -- 146
          refine ax_go 2 (y := (149, [some (.ref o), some (.int wh), some (.long a), none, some (.long b), none, some (.long c), none], [.long b, .long a], w62, 0, 0)) rfl trivial ?_
          refine hx_ldv (l := 150) rfl (by simp) rfl (by omega) (fun z74 => ?_)
          refine ax_go 1 (y := (152, [some (.ref o), some (.int wh), some (.long a), none, some (.long b), none, some (.long z74), none], [], w62, 0, 0)) rfl trivial ?_
          exact ct152 w62 z74 hw63 hf64 hs65 
        · -- 139
          refine ax_go 2 (y := (142, [some (.ref o), some (.int wh), some (.long a), none, some (.long b), none, some (.long c), none], [.long b, .long a], w62, 0, 0)) rfl trivial ?_
          refine hx_ldv (l := 143) rfl (by simp) rfl (by omega) (fun z75 => ?_)
          refine ax_go 2 (y := (152, [some (.ref o), some (.int wh), some (.long a), none, some (.long b), none, some (.long z75), none], [], w62, 0, 0)) rfl trivial ?_
          exact ct152 w62 z75 hw63 hf64 hs65 
      · -- 125
        refine ax_go 1 (y := (126, [some (.ref o), some (.int wh), some (.long a), none, some (.long b), none, some (.long c), none], [.ref o], w62, 0, 0)) rfl trivial ?_
        refine hx_k (l := 127) (m := 1) rfl rfl (by decide) (fun z76 h77 => ?_)
        obtain ⟨fs78, g79, -, q80⟩ := hx_obj hw63 hG0 (s := 5) rfl (by decide)
        refine hx_pf (q := (0, 0, 0, 0, 0, 1)) (s := 5) (l := 130) (v := .int z76) rfl rfl rfl (by decide) rfl rfl rfl hw63 hG0 g79 ⟨hx_01 (by omega) (by omega), trivial⟩ (hx_ti (G := G) (lo := 0) (hi := 1) (by omega) (by omega)) (fun w81 fs82 g83 e84 o85 n86 hw87 n88 => ?_)
        have hs89 := ty_same_tr hs65 (n88 fz (hx_ok hfz (by decide)))
        have hf90 := hF _ _ (n88 pr_ (by decide)) hf64
        refine ax_go 1 (y := (152, [some (.ref o), some (.int wh), some (.long a), none, some (.long b), none, some (.long c), none], [], w81, 0, 0)) rfl trivial ?_
        exact ct152 w81 c hw87 hf90 hs89 
    change ab_wp ro (ab_Ev ro ab_codes d) 2 false (some .int) ab_k_X2_combined (fun o_1 => ∃ v w1, o_1 = (v, w1, 0, 0) ∧ ty_w sp_ G w1 ∧ F w1 ∧ ty_same G fz w w1 ∧ ck_res G (some (0, (-2147483648), 2147483647)) v ∧ ck_wit 0 0 [.ref o, .int wh, .long a, .long b] v) (0, [some (.ref o), some (.int wh), some (.long a), none, some (.long b), none, none, none], [], w, 0, 0)
    refine hx_lk (l := 1) (m := 0) rfl rfl (by decide) (fun z91 h92 => ?_)
    refine ax_go 2 (y := (4, [some (.ref o), some (.int wh), some (.long a), none, some (.long b), none, some (.long z91), none], [.int wh], w, 0, 0)) rfl trivial ?_
    by_cases h93 : wh.toInt = 3
    · -- case
      refine hx_tsq (l := 52) 0 rfl rfl (by decide) (by decide) rfl (by omega) (by omega) ?_
      refine ax_go 2 (y := (55, [some (.ref o), some (.int wh), some (.long a), none, some (.long b), none, some (.long z91), none], [.long b, .long a], w, 0, 0)) rfl trivial ?_
      refine hx_anyl (l := 56) rfl rfl (fun z94 => ?_)
      refine ax_go 2 (y := (152, [some (.ref o), some (.int wh), some (.long a), none, some (.long b), none, some (.long z94), none], [], w, 0, 0)) rfl trivial ?_
      exact ct152 w z94 hw hf (ty_same_rf w) 
    by_cases h95 : wh.toInt = 4
    · -- case
      refine hx_tsq (l := 61) 1 rfl rfl (by decide) (by decide) rfl (by omega) (by omega) ?_
      refine ax_go 2 (y := (64, [some (.ref o), some (.int wh), some (.long a), none, some (.long b), none, some (.long z91), none], [.long b, .long a], w, 0, 0)) rfl trivial ?_
      refine hx_anyl (l := 65) rfl rfl (fun z96 => ?_)
      refine ax_go 2 (y := (152, [some (.ref o), some (.int wh), some (.long a), none, some (.long b), none, some (.long z96), none], [], w, 0, 0)) rfl trivial ?_
      exact ct152 w z96 hw hf (ty_same_rf w) 
    by_cases h97 : wh.toInt = 5
    · -- case
      refine hx_tsq (l := 70) 2 rfl rfl (by decide) (by decide) rfl (by omega) (by omega) ?_
      refine ax_go 2 (y := (73, [some (.ref o), some (.int wh), some (.long a), none, some (.long b), none, some (.long z91), none], [.long b, .long a], w, 0, 0)) rfl trivial ?_
      refine hx_anyl (l := 74) rfl rfl (fun z98 => ?_)
      refine ax_go 2 (y := (152, [some (.ref o), some (.int wh), some (.long a), none, some (.long b), none, some (.long z98), none], [], w, 0, 0)) rfl trivial ?_
      exact ct152 w z98 hw hf (ty_same_rf w) 
    by_cases h99 : wh.toInt = 6
    · -- case
      refine hx_tsq (l := 118) 3 rfl rfl (by decide) (by decide) rfl (by omega) (by omega) ?_
      exact ct118 w z91 hw hf (ty_same_rf w) 
    by_cases h100 : wh.toInt = 7
    · -- case
      refine hx_tsq (l := 118) 4 rfl rfl (by decide) (by decide) rfl (by omega) (by omega) ?_
      exact ct118 w z91 hw hf (ty_same_rf w) 
    by_cases h101 : wh.toInt = 8
    · -- case
      refine hx_tsq (l := 79) 5 rfl rfl (by decide) (by decide) rfl (by omega) (by omega) ?_
      refine ax_go 2 (y := (82, [some (.ref o), some (.int wh), some (.long a), none, some (.long b), none, some (.long z91), none], [.long b, .long a], w, 0, 0)) rfl trivial ?_
      refine hx_lcmp (l := 83) rfl rfl (fun z102 h103 => ?_)
      refine hx_if_ge (l := 86) rfl rfl (fun h104 => ?_) (fun h104 => ?_)
      · -- 90
        refine hx_k (l := 91) (m := 0) rfl rfl (by decide) (fun z105 h106 => ?_)
        exact ax_ret rfl rfl trivial ⟨some (.int z105), _, rfl, hw, hf, (ty_same_rf w), (ck_top_ok (G := G) z105), trivial⟩
      · -- 86
        refine hx_k (l := 87) (m := 1) rfl rfl (by decide) (fun z107 h108 => ?_)
        refine ax_go 1 (y := (91, [some (.ref o), some (.int wh), some (.long a), none, some (.long b), none, some (.long z91), none], [.int z107], w, 0, 0)) rfl trivial ?_
        exact ax_ret rfl rfl trivial ⟨some (.int z107), _, rfl, hw, hf, (ty_same_rf w), (ck_top_ok (G := G) z107), trivial⟩
    by_cases h109 : wh.toInt = 9
    · -- case
      refine hx_tsq (l := 92) 6 rfl rfl (by decide) (by decide) rfl (by omega) (by omega) ?_
      refine ax_go 2 (y := (95, [some (.ref o), some (.int wh), some (.long a), none, some (.long b), none, some (.long z91), none], [.long b, .long a], w, 0, 0)) rfl trivial ?_
      refine hx_lcmp (l := 96) rfl rfl (fun z110 h111 => ?_)
      refine hx_if_le (l := 99) rfl rfl (fun h112 => ?_) (fun h112 => ?_)
      · -- 103
        refine hx_k (l := 104) (m := 0) rfl rfl (by decide) (fun z113 h114 => ?_)
        exact ax_ret rfl rfl trivial ⟨some (.int z113), _, rfl, hw, hf, (ty_same_rf w), (ck_top_ok (G := G) z113), trivial⟩
      · -- 99
        refine hx_k (l := 100) (m := 1) rfl rfl (by decide) (fun z115 h116 => ?_)
        refine ax_go 1 (y := (104, [some (.ref o), some (.int wh), some (.long a), none, some (.long b), none, some (.long z91), none], [.int z115], w, 0, 0)) rfl trivial ?_
        exact ax_ret rfl rfl trivial ⟨some (.int z115), _, rfl, hw, hf, (ty_same_rf w), (ck_top_ok (G := G) z115), trivial⟩
    by_cases h117 : wh.toInt = 10
    · -- case
      refine hx_tsq (l := 105) 7 rfl rfl (by decide) (by decide) rfl (by omega) (by omega) ?_
      refine ax_go 2 (y := (108, [some (.ref o), some (.int wh), some (.long a), none, some (.long b), none, some (.long z91), none], [.long b, .long a], w, 0, 0)) rfl trivial ?_
      refine hx_lcmp (l := 109) rfl rfl (fun z118 h119 => ?_)
      refine hx_if_ne (l := 112) rfl rfl (fun h120 => ?_) (fun h120 => ?_)
      · -- 116
        refine hx_k (l := 117) (m := 0) rfl rfl (by decide) (fun z121 h122 => ?_)
        exact ax_ret rfl rfl trivial ⟨some (.int z121), _, rfl, hw, hf, (ty_same_rf w), (ck_top_ok (G := G) z121), trivial⟩
      · -- 112
        refine hx_k (l := 113) (m := 1) rfl rfl (by decide) (fun z123 h124 => ?_)
        refine ax_go 1 (y := (117, [some (.ref o), some (.int wh), some (.long a), none, some (.long b), none, some (.long z91), none], [.int z123], w, 0, 0)) rfl trivial ?_
        exact ax_ret rfl rfl trivial ⟨some (.int z123), _, rfl, hw, hf, (ty_same_rf w), (ck_top_ok (G := G) z123), trivial⟩
    refine hx_tsd (l := 118) rfl (by decide) rfl (by omega) ?_
    exact ct118 w z91 hw hf (ty_same_rf w) 
def fb_X2_value0 : List (Nat × Nat) := [(8, 3), (8, 5), (19, 999), (32, 999), (33, 999), (34, 999), (35, 999), (44, 999), (45, 999), (1, 0), (18, 999), (2, 11), (2, 14), (1, 15), (54, 11), (4, 2), (7, 9), (30, 13), (30, 34), (30, 2), (30, 22), (30, 23), (30, 24), (30, 25), (46, 999), (47, 999), (30, 35), (30, 36), (7, 0), (24, 999), (37, 999), (30, 4), (30, 5), (30, 6), (30, 8), (30, 9), (30, 10), (30, 11), (30, 14), (30, 15), (30, 16), (30, 17), (30, 18), (30, 19), (30, 20), (30, 21), (39, 999), (40, 999), (41, 999), (30, 30), (30, 42), (30, 43), (30, 44), (1, 1), (1, 3), (1, 10), (1, 13), (8, 0), (30, 49), (2, 15), (8, 1)]
set_option maxHeartbeats 8000000 in
theorem h_X2_value0 {ro : ab_R} {G : Nat → Nat} {fz : List (Nat × Nat)} {F : ab_W → Prop} (hF : ∀ w w', ty_same G pr_ w w' → F w → F w') (hfz : ∀ q ∈ fz, q ∈ fb_X2_value0) (d : Nat) : ck_ct ro sp_ G F fz (ab_Ev ro ab_codes (d + 2)) 18 [(2, 5, 0), (2, 10, 0), (0, (-2147483648), 2147483647), (2, 14, 0)] (some (0, (-2147483648), 2147483647)) 0 0 := by
  refine ck_hand (d := d + 1) (by decide) (fun as w hw hf has => ?_)
  match as, has with
  | [v0, v1, v2, v3], ⟨h0, h1, h2, h3, _⟩ =>
    obtain ⟨o, rfl, _, hG0⟩ := ty_refn h0 rfl rfl
    replace hG0 : G o = 5 := hG0
    obtain ⟨tx, rfl, _, hG1⟩ := ty_refn h1 rfl rfl
    replace hG1 : G tx = 10 := hG1
    obtain ⟨s0, rfl, hl2, hh2⟩ := ty_int h2 rfl
    replace hl2 : ((-2147483648) : Int) ≤ s0.toInt := hl2
    replace hh2 : s0.toInt ≤ 2147483647 := hh2
    obtain ⟨wr, rfl, _, hG3⟩ := ty_refn h3 rfl rfl
    replace hG3 : G wr = 14 := hG3
    refine ⟨rfl, ?_⟩
    have ct17 : ∀ (nq : Nat) (w1 : ab_W) (top : Int32) (at1 : Int32) (u6 : Option Int32) (u7 : Option Int32), ty_w sp_ G w1 → F w1 → ty_same G fz w w1 → (0 ≤ top.toInt) → (top.toInt ≤ 64) → (0 ≤ at1.toInt) → (at1.toInt ≤ 2147483647) → (2147483647 - at1.toInt).toNat < nq → ab_wp ro (ab_Ev ro ab_codes (d + 1)) 2 false (some .int) ab_k_X2_value (fun o_1 => ∃ v w1, o_1 = (v, w1, 0, 0) ∧ ty_w sp_ G w1 ∧ F w1 ∧ ty_same G fz w w1 ∧ ck_res G (some (0, (-2147483648), 2147483647)) v ∧ ck_wit 0 0 [.ref o, .ref tx, .int s0, .ref wr] v) (17, [some (.ref o), some (.ref tx), some (.int s0), some (.ref wr), some (.int top), some (.int at1), (u6.map Value.int), (u7.map Value.int)], [], w1, 0, 0) := by
      intro nq
      induction nq with
      | zero => intro w1 top at1 u6 u7 hw6 hf7 hs8 i2 i3 i4 i5 hm; exact absurd hm (Nat.not_lt_zero _)
      | succ nq ih17 =>
        intro w1 top at1 u6 u7 hw6 hf7 hs8 i2 i3 i4 i5 hm17
        have ct293 : ∀ (w9 : ab_W) (top2 : Int32) (at2 : Int32) (wh2 : Int32) (wi2 : Int32), ty_w sp_ G w9 → F w9 → ty_same G fz w w9 → (0 ≤ top2.toInt) → (top2.toInt ≤ 64) → (at1.toInt ≤ at2.toInt) → (at2.toInt < 2147483647) → ab_wp ro (ab_Ev ro ab_codes (d + 1)) 2 false (some .int) ab_k_X2_value (fun o_1 => ∃ v w1, o_1 = (v, w1, 0, 0) ∧ ty_w sp_ G w1 ∧ F w1 ∧ ty_same G fz w w1 ∧ ck_res G (some (0, (-2147483648), 2147483647)) v ∧ ck_wit 0 0 [.ref o, .ref tx, .int s0, .ref wr] v) (293, [some (.ref o), some (.ref tx), some (.int s0), some (.ref wr), some (.int top2), some (.int at2), some (.int wh2), some (.int wi2)], [], w9, 0, 0) := by
          intro w9 top2 at2 wh2 wi2 hw14 hf15 hs16 i10 i11 i12 i13
          refine hx_iinc (x := at2) (n := 1) (l := 296) rfl rfl rfl (Nat.le_of_ble_eq_true rfl) (by omega) (by omega) (by decide) (fun z17 h18 => ?_)
          change ab_wp ro (ab_Ev ro ab_codes (d + 1)) 2 false (some .int) ab_k_X2_value (fun o_1 => ∃ v w1, o_1 = (v, w1, 0, 0) ∧ ty_w sp_ G w1 ∧ F w1 ∧ ty_same G fz w w1 ∧ ck_res G (some (0, (-2147483648), 2147483647)) v ∧ ck_wit 0 0 [.ref o, .ref tx, .int s0, .ref wr] v) (296, [some (.ref o), some (.ref tx), some (.int s0), some (.ref wr), some (.int top2), some (.int z17), some (.int wh2), some (.int wi2)], [], w9, 0, 0)
          refine ax_go 1 (y := (17, [some (.ref o), some (.ref tx), some (.int s0), some (.ref wr), some (.int top2), some (.int z17), some (.int wh2), some (.int wi2)], [], w9, 0, 0)) rfl trivial ?_
          exact ih17 w9 top2 z17 (some wh2) (some wi2) hw14 hf15 hs16 (by omega) (by omega) (by omega) (by omega) (by omega)
        refine ax_go 2 (y := (20, [some (.ref o), some (.ref tx), some (.int s0), some (.ref wr), some (.int top), some (.int at1), (u6.map Value.int), (u7.map Value.int)], [.ref tx, .int at1], w1, 0, 0)) rfl trivial ?_
        obtain ⟨fs19, g20, -, q21⟩ := hx_obj hw6 hG1 (s := 10) rfl (by decide)
        obtain ⟨p22, e23, hG24⟩ := hx_fr (k := 0) (s := 27) q21 rfl
        refine hx_gf (l := 23) rfl rfl rfl g20 e23 ?_
        obtain ⟨m28, f25, g26, r27⟩ := hx_rowA hw6 hG24 (s := 27) (kd := 0) (n := 436) rfl (by decide)
        refine hx_len (l := 24) rfl rfl g26 rfl (by omega) (fun z29 h30 => ?_)
        refine hx_ic_ge (l := 27) rfl rfl (fun h31 => ?_) (fun h31 => ?_)
        · -- 299
          refine ax_go 1 (y := (300, [some (.ref o), some (.ref tx), some (.int s0), some (.ref wr), some (.int top), some (.int at1), (u6.map Value.int), (u7.map Value.int)], [.ref o], w1, 0, 0)) rfl trivial ?_
          obtain ⟨fs32, g33, -, q34⟩ := hx_obj hw6 hG0 (s := 5) rfl (by decide)
          obtain ⟨x35, e36, a37, b38⟩ := hx_fi (k := 1) (lo := 0) (hi := 1) q34 rfl
          refine hx_gf (l := 303) rfl rfl rfl g33 e36 ?_
          refine hx_if_ne (l := 306) rfl rfl (fun h39 => ?_) (fun h39 => ?_)
          · -- 312
            refine hx_k (l := 313) (m := 0) rfl rfl (by decide) (fun z40 h41 => ?_)
            refine ax_go 1 (y := (322, [some (.ref o), some (.ref tx), some (.int s0), some (.ref wr), some (.int top), some (.int at1), (u6.map Value.int), (u7.map Value.int)], [.int z40], w1, 0, 0)) rfl trivial ?_
            exact ax_ret rfl rfl trivial ⟨some (.int z40), _, rfl, hw6, hf7, hs8, (ck_top_ok (G := G) z40), trivial⟩
          · -- 306
            refine ax_go 1 (y := (308, [some (.ref o), some (.ref tx), some (.int s0), some (.ref wr), some (.int top), some (.int at1), (u6.map Value.int), (u7.map Value.int)], [.int top], w1, 0, 0)) rfl trivial ?_
            refine hx_k (l := 309) (m := 1) rfl rfl (by decide) (fun z42 h43 => ?_)
            refine hx_ic_ge (l := 312) rfl rfl (fun h44 => ?_) (fun h44 => ?_)
            · -- 316
              refine ax_go 1 (y := (317, [some (.ref o), some (.ref tx), some (.int s0), some (.ref wr), some (.int top), some (.int at1), (u6.map Value.int), (u7.map Value.int)], [.ref o], w1, 0, 0)) rfl trivial ?_
              obtain ⟨p45, e46, hG47⟩ := hx_fr (k := 0) (s := 20) q34 rfl
              refine hx_gf (l := 320) rfl rfl rfl g33 e46 ?_
              refine hx_k (l := 321) (m := 0) rfl rfl (by decide) (fun z48 h49 => ?_)
              obtain ⟨f50, g51, r52⟩ := hx_row hw6 hG47 (s := 20) (kd := 0) (n := 64) rfl (by decide)
              refine hx_il (l := 322) rfl rfl g51 (by omega) (by omega) (fun z53 h54 => ?_)
              exact ax_ret rfl rfl trivial ⟨some (.int z53), _, rfl, hw6, hf7, hs8, (ck_top_ok (G := G) z53), trivial⟩
            · -- 312
              refine hx_k (l := 313) (m := 0) rfl rfl (by decide) (fun z55 h56 => ?_)
              refine ax_go 1 (y := (322, [some (.ref o), some (.ref tx), some (.int s0), some (.ref wr), some (.int top), some (.int at1), (u6.map Value.int), (u7.map Value.int)], [.int z55], w1, 0, 0)) rfl trivial ?_
              exact ax_ret rfl rfl trivial ⟨some (.int z55), _, rfl, hw6, hf7, hs8, (ck_top_ok (G := G) z55), trivial⟩
        · -- 27
          refine ax_go 1 (y := (28, [some (.ref o), some (.ref tx), some (.int s0), some (.ref wr), some (.int top), some (.int at1), (u6.map Value.int), (u7.map Value.int)], [.ref tx], w1, 0, 0)) rfl trivial ?_
          refine hx_gf (l := 31) rfl rfl rfl g20 e23 ?_
          refine ax_go 1 (y := (33, [some (.ref o), some (.ref tx), some (.int s0), some (.ref wr), some (.int top), some (.int at1), (u6.map Value.int), (u7.map Value.int)], [.int at1, .ref p22], w1, 0, 0)) rfl trivial ?_
          refine hx_il (l := 34) rfl rfl g26 (by omega) (by omega) (fun z57 h58 => ?_)
          refine hx_k (l := 36) (m := 15) rfl rfl (by decide) (fun z59 h60 => ?_)
          refine hx_and (l := 37) (m := 15) rfl rfl (by omega) (by decide) (fun z61 h62 h63 => ?_)
          refine ax_go 2 (y := (40, [some (.ref o), some (.ref tx), some (.int s0), some (.ref wr), some (.int top), some (.int at1), some (.int z61), (u7.map Value.int)], [.ref tx], w1, 0, 0)) rfl trivial ?_
          refine hx_gf (l := 43) rfl rfl rfl g20 e23 ?_
          refine ax_go 1 (y := (45, [some (.ref o), some (.ref tx), some (.int s0), some (.ref wr), some (.int top), some (.int at1), some (.int z61), (u7.map Value.int)], [.int at1, .ref p22], w1, 0, 0)) rfl trivial ?_
          refine hx_il (l := 46) rfl rfl g26 (by omega) (by omega) (fun z64 h65 => ?_)
          refine hx_k (l := 47) (m := 4) rfl rfl (by decide) (fun z66 h67 => ?_)
          have b70 := ck_i32 z64
          refine hx_shr (m := 4) (l := 48) rfl rfl (hx_eq.mpr (by rw [show (Int32.ofNat 4).toInt = 4 from by decide]; omega)) (by decide) (fun z68 h69 => ?_)
          replace h69 : z68.toInt = _ / 16 := h69
          refine ax_go 2 (y := (52, [some (.ref o), some (.ref tx), some (.int s0), some (.ref wr), some (.int top), some (.int at1), some (.int z61), some (.int z68)], [.int z61], w1, 0, 0)) rfl trivial ?_
          refine hx_if_eq (l := 55) rfl rfl (fun h71 => ?_) (fun h71 => ?_)
          · -- 299
            refine ax_go 1 (y := (300, [some (.ref o), some (.ref tx), some (.int s0), some (.ref wr), some (.int top), some (.int at1), some (.int z61), some (.int z68)], [.ref o], w1, 0, 0)) rfl trivial ?_
            obtain ⟨fs72, g73, -, q74⟩ := hx_obj hw6 hG0 (s := 5) rfl (by decide)
            obtain ⟨x75, e76, a77, b78⟩ := hx_fi (k := 1) (lo := 0) (hi := 1) q74 rfl
            refine hx_gf (l := 303) rfl rfl rfl g73 e76 ?_
            refine hx_if_ne (l := 306) rfl rfl (fun h79 => ?_) (fun h79 => ?_)
            · -- 312
              refine hx_k (l := 313) (m := 0) rfl rfl (by decide) (fun z80 h81 => ?_)
              refine ax_go 1 (y := (322, [some (.ref o), some (.ref tx), some (.int s0), some (.ref wr), some (.int top), some (.int at1), some (.int z61), some (.int z68)], [.int z80], w1, 0, 0)) rfl trivial ?_
              exact ax_ret rfl rfl trivial ⟨some (.int z80), _, rfl, hw6, hf7, hs8, (ck_top_ok (G := G) z80), trivial⟩
            · -- 306
              refine ax_go 1 (y := (308, [some (.ref o), some (.ref tx), some (.int s0), some (.ref wr), some (.int top), some (.int at1), some (.int z61), some (.int z68)], [.int top], w1, 0, 0)) rfl trivial ?_
              refine hx_k (l := 309) (m := 1) rfl rfl (by decide) (fun z82 h83 => ?_)
              refine hx_ic_ge (l := 312) rfl rfl (fun h84 => ?_) (fun h84 => ?_)
              · -- 316
                refine ax_go 1 (y := (317, [some (.ref o), some (.ref tx), some (.int s0), some (.ref wr), some (.int top), some (.int at1), some (.int z61), some (.int z68)], [.ref o], w1, 0, 0)) rfl trivial ?_
                obtain ⟨p85, e86, hG87⟩ := hx_fr (k := 0) (s := 20) q74 rfl
                refine hx_gf (l := 320) rfl rfl rfl g73 e86 ?_
                refine hx_k (l := 321) (m := 0) rfl rfl (by decide) (fun z88 h89 => ?_)
                obtain ⟨f90, g91, r92⟩ := hx_row hw6 hG87 (s := 20) (kd := 0) (n := 64) rfl (by decide)
                refine hx_il (l := 322) rfl rfl g91 (by omega) (by omega) (fun z93 h94 => ?_)
                exact ax_ret rfl rfl trivial ⟨some (.int z93), _, rfl, hw6, hf7, hs8, (ck_top_ok (G := G) z93), trivial⟩
              · -- 312
                refine hx_k (l := 313) (m := 0) rfl rfl (by decide) (fun z95 h96 => ?_)
                refine ax_go 1 (y := (322, [some (.ref o), some (.ref tx), some (.int s0), some (.ref wr), some (.int top), some (.int at1), some (.int z61), some (.int z68)], [.int z95], w1, 0, 0)) rfl trivial ?_
                exact ax_ret rfl rfl trivial ⟨some (.int z95), _, rfl, hw6, hf7, hs8, (ck_top_ok (G := G) z95), trivial⟩
          · -- 55
            refine ax_go 1 (y := (56, [some (.ref o), some (.ref tx), some (.int s0), some (.ref wr), some (.int top), some (.int at1), some (.int z61), some (.int z68)], [.ref o], w1, 0, 0)) rfl trivial ?_
            obtain ⟨fs97, g98, -, q99⟩ := hx_obj hw6 hG0 (s := 5) rfl (by decide)
            obtain ⟨x100, e101, a102, b103⟩ := hx_fi (k := 1) (lo := 0) (hi := 1) q99 rfl
            refine hx_gf (l := 59) rfl rfl rfl g98 e101 ?_
            refine hx_if_eq (l := 62) rfl rfl (fun h104 => ?_) (fun h104 => ?_)
            · -- 65
              refine ax_go 1 (y := (67, [some (.ref o), some (.ref tx), some (.int s0), some (.ref wr), some (.int top), some (.int at1), some (.int z61), some (.int z68)], [.int z61], w1, 0, 0)) rfl trivial ?_
              refine hx_k (l := 68) (m := 1) rfl rfl (by decide) (fun z105 h106 => ?_)
              refine hx_ic_eq (l := 71) rfl rfl (fun h107 => ?_) (fun h107 => ?_)
              · -- 77
                refine ax_go 2 (y := (80, [some (.ref o), some (.ref tx), some (.int s0), some (.ref wr), some (.int top), some (.int at1), some (.int z61), some (.int z68)], [.ref o, .int top], w1, 0, 0)) rfl trivial ?_
                obtain ⟨p108, e109, hG110⟩ := hx_fr (k := 0) (s := 20) q99 rfl
                refine hx_gf (l := 83) rfl rfl rfl g98 e109 ?_
                obtain ⟨f111, g112, r113⟩ := hx_row hw6 hG110 (s := 20) (kd := 0) (n := 64) rfl (by decide)
                refine hx_len (l := 84) rfl rfl g112 rfl (by omega) (fun z114 h115 => ?_)
                refine hx_ic_lt (l := 87) rfl rfl (fun h116 => ?_) (fun h116 => ?_)
                · -- 95
                  refine ax_go 1 (y := (96, [some (.ref o), some (.ref tx), some (.int s0), some (.ref wr), some (.int top), some (.int at1), some (.int z61), some (.int z68)], [.ref o], w1, 0, 0)) rfl trivial ?_
                  refine hx_gf (l := 99) rfl rfl rfl g98 e109 ?_
                  refine ax_go 2 (y := (103, [some (.ref o), some (.ref tx), some (.int s0), some (.ref wr), some (.int top), some (.int at1), some (.int z61), some (.int z68)], [.int z61, .int top, .ref p108], w1, 0, 0)) rfl trivial ?_
                  refine hx_k (l := 104) (m := 1) rfl rfl (by decide) (fun z117 h118 => ?_)
                  refine hx_ic_ne (l := 107) rfl rfl (fun h119 => ?_) (fun h119 => ?_)
                  · -- 112
                    refine ax_go 1 (y := (114, [some (.ref o), some (.ref tx), some (.int s0), some (.ref wr), some (.int top), some (.int at1), some (.int z61), some (.int z68)], [.int z68, .int top, .ref p108], w1, 0, 0)) rfl trivial ?_
                    refine hx_if_lt (l := 117) rfl rfl (fun h120 => ?_) (fun h120 => ?_)
                    · -- 131
                      refine hx_k (l := 132) (m := 0) rfl rfl (by decide) (fun z121 h122 => ?_)
                      refine hx_is (s := 20) (l := 133) rfl rfl rfl hw6 hG110 g112 (by omega) (by omega) hx_sg0 (fun w123 f124 g125 e126 o127 n128 hw129 n130 => ?_)
                      have hs131 := ty_same_tr hs8 (n130 fz (hx_ok hfz (by decide)))
                      have hf132 := hF _ _ (n130 pr_ (by decide)) hf7
                      refine hx_iinc (x := top) (n := 1) (l := 136) rfl rfl rfl (Nat.le_of_ble_eq_true rfl) (by omega) (by omega) (by decide) (fun z133 h134 => ?_)
                      change ab_wp ro (ab_Ev ro ab_codes (d + 1)) 2 false (some .int) ab_k_X2_value (fun o_1 => ∃ v w1, o_1 = (v, w1, 0, 0) ∧ ty_w sp_ G w1 ∧ F w1 ∧ ty_same G fz w w1 ∧ ck_res G (some (0, (-2147483648), 2147483647)) v ∧ ck_wit 0 0 [.ref o, .ref tx, .int s0, .ref wr] v) (136, [some (.ref o), some (.ref tx), some (.int s0), some (.ref wr), some (.int z133), some (.int at1), some (.int z61), some (.int z68)], [], w123, 0, 0)
                      refine ax_go 1 (y := (293, [some (.ref o), some (.ref tx), some (.int s0), some (.ref wr), some (.int z133), some (.int at1), some (.int z61), some (.int z68)], [], w123, 0, 0)) rfl trivial ?_
                      exact ct293 w123 z133 at1 z61 z68 hw129 hf132 hs131 (by omega) (by omega) (by omega) (by omega)
                    · -- 117
                      refine ax_go 2 (y := (120, [some (.ref o), some (.ref tx), some (.int s0), some (.ref wr), some (.int top), some (.int at1), some (.int z61), some (.int z68)], [.ref wr, .int z68, .int top, .ref p108], w1, 0, 0)) rfl trivial ?_
                      obtain ⟨f135, g136, r137⟩ := hx_row hw6 hG3 (s := 14) (kd := 0) (n := 8) rfl (by decide)
                      refine hx_len (l := 121) rfl rfl g136 rfl (by omega) (fun z138 h139 => ?_)
                      refine hx_ic_ge (l := 124) rfl rfl (fun h140 => ?_) (fun h140 => ?_)
                      · -- 131
                        refine hx_k (l := 132) (m := 0) rfl rfl (by decide) (fun z141 h142 => ?_)
                        refine hx_is (s := 20) (l := 133) rfl rfl rfl hw6 hG110 g112 (by omega) (by omega) hx_sg0 (fun w143 f144 g145 e146 o147 n148 hw149 n150 => ?_)
                        have hs151 := ty_same_tr hs8 (n150 fz (hx_ok hfz (by decide)))
                        have hf152 := hF _ _ (n150 pr_ (by decide)) hf7
                        refine hx_iinc (x := top) (n := 1) (l := 136) rfl rfl rfl (Nat.le_of_ble_eq_true rfl) (by omega) (by omega) (by decide) (fun z153 h154 => ?_)
                        change ab_wp ro (ab_Ev ro ab_codes (d + 1)) 2 false (some .int) ab_k_X2_value (fun o_1 => ∃ v w1, o_1 = (v, w1, 0, 0) ∧ ty_w sp_ G w1 ∧ F w1 ∧ ty_same G fz w w1 ∧ ck_res G (some (0, (-2147483648), 2147483647)) v ∧ ck_wit 0 0 [.ref o, .ref tx, .int s0, .ref wr] v) (136, [some (.ref o), some (.ref tx), some (.int s0), some (.ref wr), some (.int z153), some (.int at1), some (.int z61), some (.int z68)], [], w143, 0, 0)
                        refine ax_go 1 (y := (293, [some (.ref o), some (.ref tx), some (.int s0), some (.ref wr), some (.int z153), some (.int at1), some (.int z61), some (.int z68)], [], w143, 0, 0)) rfl trivial ?_
                        exact ct293 w143 z153 at1 z61 z68 hw149 hf152 hs151 (by omega) (by omega) (by omega) (by omega)
                      · -- 124
                        refine ax_go 2 (y := (127, [some (.ref o), some (.ref tx), some (.int s0), some (.ref wr), some (.int top), some (.int at1), some (.int z61), some (.int z68)], [.int z68, .ref wr, .int top, .ref p108], w1, 0, 0)) rfl trivial ?_
                        refine hx_il (l := 128) rfl rfl g136 (by omega) (by omega) (fun z155 h156 => ?_)
                        refine ax_go 1 (y := (132, [some (.ref o), some (.ref tx), some (.int s0), some (.ref wr), some (.int top), some (.int at1), some (.int z61), some (.int z68)], [.int z155, .int top, .ref p108], w1, 0, 0)) rfl trivial ?_
                        refine hx_is (s := 20) (l := 133) rfl rfl rfl hw6 hG110 g112 (by omega) (by omega) hx_sg0 (fun w157 f158 g159 e160 o161 n162 hw163 n164 => ?_)
                        have hs165 := ty_same_tr hs8 (n164 fz (hx_ok hfz (by decide)))
                        have hf166 := hF _ _ (n164 pr_ (by decide)) hf7
                        refine hx_iinc (x := top) (n := 1) (l := 136) rfl rfl rfl (Nat.le_of_ble_eq_true rfl) (by omega) (by omega) (by decide) (fun z167 h168 => ?_)
                        change ab_wp ro (ab_Ev ro ab_codes (d + 1)) 2 false (some .int) ab_k_X2_value (fun o_1 => ∃ v w1, o_1 = (v, w1, 0, 0) ∧ ty_w sp_ G w1 ∧ F w1 ∧ ty_same G fz w w1 ∧ ck_res G (some (0, (-2147483648), 2147483647)) v ∧ ck_wit 0 0 [.ref o, .ref tx, .int s0, .ref wr] v) (136, [some (.ref o), some (.ref tx), some (.int s0), some (.ref wr), some (.int z167), some (.int at1), some (.int z61), some (.int z68)], [], w157, 0, 0)
                        refine ax_go 1 (y := (293, [some (.ref o), some (.ref tx), some (.int s0), some (.ref wr), some (.int z167), some (.int at1), some (.int z61), some (.int z68)], [], w157, 0, 0)) rfl trivial ?_
                        exact ct293 w157 z167 at1 z61 z68 hw163 hf166 hs165 (by omega) (by omega) (by omega) (by omega)
                  · -- 107
                    refine ax_go 2 (y := (132, [some (.ref o), some (.ref tx), some (.int s0), some (.ref wr), some (.int top), some (.int at1), some (.int z61), some (.int z68)], [.int z68, .int top, .ref p108], w1, 0, 0)) rfl trivial ?_
                    refine hx_is (s := 20) (l := 133) rfl rfl rfl hw6 hG110 g112 (by omega) (by omega) hx_sg0 (fun w169 f170 g171 e172 o173 n174 hw175 n176 => ?_)
                    have hs177 := ty_same_tr hs8 (n176 fz (hx_ok hfz (by decide)))
                    have hf178 := hF _ _ (n176 pr_ (by decide)) hf7
                    refine hx_iinc (x := top) (n := 1) (l := 136) rfl rfl rfl (Nat.le_of_ble_eq_true rfl) (by omega) (by omega) (by decide) (fun z179 h180 => ?_)
                    change ab_wp ro (ab_Ev ro ab_codes (d + 1)) 2 false (some .int) ab_k_X2_value (fun o_1 => ∃ v w1, o_1 = (v, w1, 0, 0) ∧ ty_w sp_ G w1 ∧ F w1 ∧ ty_same G fz w w1 ∧ ck_res G (some (0, (-2147483648), 2147483647)) v ∧ ck_wit 0 0 [.ref o, .ref tx, .int s0, .ref wr] v) (136, [some (.ref o), some (.ref tx), some (.int s0), some (.ref wr), some (.int z179), some (.int at1), some (.int z61), some (.int z68)], [], w169, 0, 0)
                    refine ax_go 1 (y := (293, [some (.ref o), some (.ref tx), some (.int s0), some (.ref wr), some (.int z179), some (.int at1), some (.int z61), some (.int z68)], [], w169, 0, 0)) rfl trivial ?_
                    exact ct293 w169 z179 at1 z61 z68 hw175 hf178 hs177 (by omega) (by omega) (by omega) (by omega)
                · -- 87
                  refine ax_go 1 (y := (88, [some (.ref o), some (.ref tx), some (.int s0), some (.ref wr), some (.int top), some (.int at1), some (.int z61), some (.int z68)], [.ref o], w1, 0, 0)) rfl trivial ?_
                  refine hx_k (l := 89) (m := 1) rfl rfl (by decide) (fun z181 h182 => ?_)
                  refine hx_pf (q := (0, 0, 0, 0, 0, 1)) (s := 5) (l := 92) (v := .int z181) rfl rfl rfl (by decide) rfl rfl rfl hw6 hG0 g98 ⟨hx_01 (by omega) (by omega), trivial⟩ (hx_ti (G := G) (lo := 0) (hi := 1) (by omega) (by omega)) (fun w183 fs184 g185 e186 o187 n188 hw189 n190 => ?_)
                  have hs191 := ty_same_tr hs8 (n190 fz (hx_ok hfz (by decide)))
                  have hf192 := hF _ _ (n190 pr_ (by decide)) hf7
                  refine ax_go 2 (y := (300, [some (.ref o), some (.ref tx), some (.int s0), some (.ref wr), some (.int top), some (.int at1), some (.int z61), some (.int z68)], [.ref o], w183, 0, 0)) rfl trivial ?_
                  refine hx_gf (l := 303) rfl rfl rfl g185 e186 ?_
                  refine hx_if_ne (l := 306) rfl rfl (fun h193 => ?_) (fun h193 => by omega)
                  refine hx_k (l := 313) (m := 0) rfl rfl (by decide) (fun z194 h195 => ?_)
                  refine ax_go 1 (y := (322, [some (.ref o), some (.ref tx), some (.int s0), some (.ref wr), some (.int top), some (.int at1), some (.int z61), some (.int z68)], [.int z194], w183, 0, 0)) rfl trivial ?_
                  exact ax_ret rfl rfl trivial ⟨some (.int z194), _, rfl, hw189, hf192, hs191, (ck_top_ok (G := G) z194), trivial⟩
              · -- 71
                refine ax_go 1 (y := (73, [some (.ref o), some (.ref tx), some (.int s0), some (.ref wr), some (.int top), some (.int at1), some (.int z61), some (.int z68)], [.int z61], w1, 0, 0)) rfl trivial ?_
                refine hx_k (l := 74) (m := 2) rfl rfl (by decide) (fun z196 h197 => ?_)
                refine hx_ic_ne (l := 77) rfl rfl (fun h198 => ?_) (fun h198 => ?_)
                · -- 139
                  refine ax_go 1 (y := (141, [some (.ref o), some (.ref tx), some (.int s0), some (.ref wr), some (.int top), some (.int at1), some (.int z61), some (.int z68)], [.int top], w1, 0, 0)) rfl trivial ?_
                  refine hx_k (l := 142) (m := 1) rfl rfl (by decide) (fun z199 h200 => ?_)
                  refine hx_ic_lt (l := 145) rfl rfl (fun h201 => ?_) (fun h201 => ?_)
                  · -- 158
                    refine ax_go 1 (y := (159, [some (.ref o), some (.ref tx), some (.int s0), some (.ref wr), some (.int top), some (.int at1), some (.int z61), some (.int z68)], [.ref o], w1, 0, 0)) rfl trivial ?_
                    refine hx_k (l := 160) (m := 1) rfl rfl (by decide) (fun z202 h203 => ?_)
                    refine hx_pf (q := (0, 0, 0, 0, 0, 1)) (s := 5) (l := 163) (v := .int z202) rfl rfl rfl (by decide) rfl rfl rfl hw6 hG0 g98 ⟨hx_01 (by omega) (by omega), trivial⟩ (hx_ti (G := G) (lo := 0) (hi := 1) (by omega) (by omega)) (fun w204 fs205 g206 e207 o208 n209 hw210 n211 => ?_)
                    have hs212 := ty_same_tr hs8 (n211 fz (hx_ok hfz (by decide)))
                    have hf213 := hF _ _ (n211 pr_ (by decide)) hf7
                    refine ax_go 1 (y := (293, [some (.ref o), some (.ref tx), some (.int s0), some (.ref wr), some (.int top), some (.int at1), some (.int z61), some (.int z68)], [], w204, 0, 0)) rfl trivial ?_
                    exact ct293 w204 top at1 z61 z68 hw210 hf213 hs212 (by omega) (by omega) (by omega) (by omega)
                  · -- 145
                    refine ax_go 1 (y := (147, [some (.ref o), some (.ref tx), some (.int s0), some (.ref wr), some (.int top), some (.int at1), some (.int z61), some (.int z68)], [.int z61], w1, 0, 0)) rfl trivial ?_
                    refine hx_k (l := 149) (m := 11) rfl rfl (by decide) (fun z214 h215 => ?_)
                    refine hx_ic_ge (l := 152) rfl rfl (fun h216 => ?_) (fun h216 => ?_)
                    · -- 166
                      refine ax_go 1 (y := (168, [some (.ref o), some (.ref tx), some (.int s0), some (.ref wr), some (.int top), some (.int at1), some (.int z61), some (.int z68)], [.int z61], w1, 0, 0)) rfl trivial ?_
                      refine hx_k (l := 170) (m := 11) rfl rfl (by decide) (fun z217 h218 => ?_)
                      refine hx_ic_ne (l := 173) rfl rfl (fun h219 => ?_) (fun h219 => ?_)
                      · -- 196
                        refine ax_go 1 (y := (198, [some (.ref o), some (.ref tx), some (.int s0), some (.ref wr), some (.int top), some (.int at1), some (.int z61), some (.int z68)], [.int z61], w1, 0, 0)) rfl trivial ?_
                        refine hx_k (l := 200) (m := 11) rfl rfl (by decide) (fun z220 h221 => ?_)
                        refine hx_ic_ge (l := 203) rfl rfl (fun h222 => ?_) (fun h222 => ?_)
                        · -- 244
                          refine ax_go 1 (y := (245, [some (.ref o), some (.ref tx), some (.int s0), some (.ref wr), some (.int top), some (.int at1), some (.int z61), some (.int z68)], [.ref o], w1, 0, 0)) rfl trivial ?_
                          obtain ⟨p223, e224, hG225⟩ := hx_fr (k := 0) (s := 20) q99 rfl
                          refine hx_gf (l := 248) rfl rfl rfl g98 e224 ?_
                          refine ax_go 1 (y := (250, [some (.ref o), some (.ref tx), some (.int s0), some (.ref wr), some (.int top), some (.int at1), some (.int z61), some (.int z68)], [.int top, .ref p223], w1, 0, 0)) rfl trivial ?_
                          refine hx_k (l := 251) (m := 1) rfl rfl (by decide) (fun z226 h227 => ?_)
                          refine hx_sub (l := 252) rfl rfl (fun z228 h229 => ?_)
                          replace h229 := h229 (by omega) (by omega)
                          obtain ⟨f230, g231, r232⟩ := hx_row hw6 hG225 (s := 20) (kd := 0) (n := 64) rfl (by decide)
                          refine hx_il (l := 253) rfl rfl g231 (by omega) (by omega) (fun z233 h234 => ?_)
                          refine hx_if_eq (l := 256) rfl rfl (fun h235 => ?_) (fun h235 => ?_)
                          · -- 260
                            refine hx_k (l := 261) (m := 0) rfl rfl (by decide) (fun z236 h237 => ?_)
                            refine ax_go 1 (y := (263, [some (.ref o), some (.ref tx), some (.int s0), some (.ref wr), some (.int top), some (.int at1), some (.int z61), some (.int z68)], [.int z61, .int z236], w1, 0, 0)) rfl trivial ?_
                            refine hx_k (l := 265) (m := 12) rfl rfl (by decide) (fun z238 h239 => ?_)
                            refine hx_ic_ne (l := 268) rfl rfl (fun h240 => ?_) (fun h240 => ?_)
                            · -- 272
                              refine hx_k (l := 273) (m := 0) rfl rfl (by decide) (fun z241 h242 => ?_)
                              refine hx_ic_ne (l := 276) rfl rfl (fun h243 => by omega) (fun h243 => ?_)
                              refine ax_go 2 (y := (280, [some (.ref o), some (.ref tx), some (.int s0), some (.ref wr), some (.int top), some (.int at1), some (.int z61), some (.int z68)], [.int z68, .int at1], w1, 0, 0)) rfl trivial ?_
                              refine hx_k (l := 281) (m := 1) rfl rfl (by decide) (fun z244 h245 => ?_)
                              refine hx_sub (l := 282) rfl rfl (fun z246 h247 => ?_)
                              replace h247 := h247 (by omega) (by omega)
                              refine hx_max (l := 285) rfl rfl (by decide) rfl (fun z248 h249 => ?_)
                              refine ax_go 2 (y := (293, [some (.ref o), some (.ref tx), some (.int s0), some (.ref wr), some (.int top), some (.int z248), some (.int z61), some (.int z68)], [], w1, 0, 0)) rfl trivial ?_
                              exact ct293 w1 top z248 z61 z68 hw6 hf7 hs8 (by omega) (by omega) (by omega) (by omega)
                            · -- 268
                              refine hx_k (l := 269) (m := 1) rfl rfl (by decide) (fun z250 h251 => ?_)
                              refine ax_go 1 (y := (273, [some (.ref o), some (.ref tx), some (.int s0), some (.ref wr), some (.int top), some (.int at1), some (.int z61), some (.int z68)], [.int z250, .int z236], w1, 0, 0)) rfl trivial ?_
                              refine hx_ic_ne (l := 276) rfl rfl (fun h252 => ?_) (fun h252 => by omega)
                              refine hx_iinc (x := top) (n := (-1)) (l := 293) rfl rfl rfl (Nat.le_of_ble_eq_true rfl) (by omega) (by omega) (by decide) (fun z253 h254 => ?_)
                              change ab_wp ro (ab_Ev ro ab_codes (d + 1)) 2 false (some .int) ab_k_X2_value (fun o_1 => ∃ v w1, o_1 = (v, w1, 0, 0) ∧ ty_w sp_ G w1 ∧ F w1 ∧ ty_same G fz w w1 ∧ ck_res G (some (0, (-2147483648), 2147483647)) v ∧ ck_wit 0 0 [.ref o, .ref tx, .int s0, .ref wr] v) (293, [some (.ref o), some (.ref tx), some (.int s0), some (.ref wr), some (.int z253), some (.int at1), some (.int z61), some (.int z68)], [], w1, 0, 0)
                              exact ct293 w1 z253 at1 z61 z68 hw6 hf7 hs8 (by omega) (by omega) (by omega) (by omega)
                          · -- 256
                            refine hx_k (l := 257) (m := 1) rfl rfl (by decide) (fun z255 h256 => ?_)
                            refine ax_go 2 (y := (263, [some (.ref o), some (.ref tx), some (.int s0), some (.ref wr), some (.int top), some (.int at1), some (.int z61), some (.int z68)], [.int z61, .int z255], w1, 0, 0)) rfl trivial ?_
                            refine hx_k (l := 265) (m := 12) rfl rfl (by decide) (fun z257 h258 => ?_)
                            refine hx_ic_ne (l := 268) rfl rfl (fun h259 => ?_) (fun h259 => ?_)
                            · -- 272
                              refine hx_k (l := 273) (m := 0) rfl rfl (by decide) (fun z260 h261 => ?_)
                              refine hx_ic_ne (l := 276) rfl rfl (fun h262 => ?_) (fun h262 => by omega)
                              refine hx_iinc (x := top) (n := (-1)) (l := 293) rfl rfl rfl (Nat.le_of_ble_eq_true rfl) (by omega) (by omega) (by decide) (fun z263 h264 => ?_)
                              change ab_wp ro (ab_Ev ro ab_codes (d + 1)) 2 false (some .int) ab_k_X2_value (fun o_1 => ∃ v w1, o_1 = (v, w1, 0, 0) ∧ ty_w sp_ G w1 ∧ F w1 ∧ ty_same G fz w w1 ∧ ck_res G (some (0, (-2147483648), 2147483647)) v ∧ ck_wit 0 0 [.ref o, .ref tx, .int s0, .ref wr] v) (293, [some (.ref o), some (.ref tx), some (.int s0), some (.ref wr), some (.int z263), some (.int at1), some (.int z61), some (.int z68)], [], w1, 0, 0)
                              exact ct293 w1 z263 at1 z61 z68 hw6 hf7 hs8 (by omega) (by omega) (by omega) (by omega)
                            · -- 268
                              refine hx_k (l := 269) (m := 1) rfl rfl (by decide) (fun z265 h266 => ?_)
                              refine ax_go 1 (y := (273, [some (.ref o), some (.ref tx), some (.int s0), some (.ref wr), some (.int top), some (.int at1), some (.int z61), some (.int z68)], [.int z265, .int z255], w1, 0, 0)) rfl trivial ?_
                              refine hx_ic_ne (l := 276) rfl rfl (fun h267 => by omega) (fun h267 => ?_)
                              refine ax_go 2 (y := (280, [some (.ref o), some (.ref tx), some (.int s0), some (.ref wr), some (.int top), some (.int at1), some (.int z61), some (.int z68)], [.int z68, .int at1], w1, 0, 0)) rfl trivial ?_
                              refine hx_k (l := 281) (m := 1) rfl rfl (by decide) (fun z268 h269 => ?_)
                              refine hx_sub (l := 282) rfl rfl (fun z270 h271 => ?_)
                              replace h271 := h271 (by omega) (by omega)
                              refine hx_max (l := 285) rfl rfl (by decide) rfl (fun z272 h273 => ?_)
                              refine ax_go 2 (y := (293, [some (.ref o), some (.ref tx), some (.int s0), some (.ref wr), some (.int top), some (.int z272), some (.int z61), some (.int z68)], [], w1, 0, 0)) rfl trivial ?_
                              exact ct293 w1 top z272 z61 z68 hw6 hf7 hs8 (by omega) (by omega) (by omega) (by omega)
                        · -- 203
                          refine ax_go 1 (y := (204, [some (.ref o), some (.ref tx), some (.int s0), some (.ref wr), some (.int top), some (.int at1), some (.int z61), some (.int z68)], [.ref o], w1, 0, 0)) rfl trivial ?_
                          obtain ⟨p274, e275, hG276⟩ := hx_fr (k := 0) (s := 20) q99 rfl
                          refine hx_gf (l := 207) rfl rfl rfl g98 e275 ?_
                          refine ax_go 1 (y := (209, [some (.ref o), some (.ref tx), some (.int s0), some (.ref wr), some (.int top), some (.int at1), some (.int z61), some (.int z68)], [.int top, .ref p274], w1, 0, 0)) rfl trivial ?_
                          refine hx_k (l := 210) (m := 2) rfl rfl (by decide) (fun z277 h278 => ?_)
                          refine hx_sub (l := 211) rfl rfl (fun z279 h280 => ?_)
                          replace h280 := h280 (by omega) (by omega)
                          refine ax_go 3 (y := (215, [some (.ref o), some (.ref tx), some (.int s0), some (.ref wr), some (.int top), some (.int at1), some (.int z61), some (.int z68)], [.ref o, .int z61, .ref o, .int z279, .ref p274], w1, 0, 0)) rfl trivial ?_
                          refine hx_gf (l := 218) rfl rfl rfl g98 e275 ?_
                          refine ax_go 1 (y := (220, [some (.ref o), some (.ref tx), some (.int s0), some (.ref wr), some (.int top), some (.int at1), some (.int z61), some (.int z68)], [.int top, .ref p274, .int z61, .ref o, .int z279, .ref p274], w1, 0, 0)) rfl trivial ?_
                          refine hx_k (l := 221) (m := 2) rfl rfl (by decide) (fun z281 h282 => ?_)
                          refine hx_sub (l := 222) rfl rfl (fun z283 h284 => ?_)
                          replace h284 := h284 (by omega) (by omega)
                          obtain ⟨f285, g286, r287⟩ := hx_row hw6 hG276 (s := 20) (kd := 0) (n := 64) rfl (by decide)
                          refine hx_il (l := 223) rfl rfl g286 (by omega) (by omega) (fun z288 h289 => ?_)
                          refine hx_anyl (l := 224) rfl rfl (fun z290 => ?_)
                          refine ax_go 1 (y := (225, [some (.ref o), some (.ref tx), some (.int s0), some (.ref wr), some (.int top), some (.int at1), some (.int z61), some (.int z68)], [.ref o, .long z290, .int z61, .ref o, .int z279, .ref p274], w1, 0, 0)) rfl trivial ?_
                          refine hx_gf (l := 228) rfl rfl rfl g98 e275 ?_
                          refine ax_go 1 (y := (230, [some (.ref o), some (.ref tx), some (.int s0), some (.ref wr), some (.int top), some (.int at1), some (.int z61), some (.int z68)], [.int top, .ref p274, .long z290, .int z61, .ref o, .int z279, .ref p274], w1, 0, 0)) rfl trivial ?_
                          refine hx_k (l := 231) (m := 1) rfl rfl (by decide) (fun z291 h292 => ?_)
                          refine hx_sub (l := 232) rfl rfl (fun z293 h294 => ?_)
                          replace h294 := h294 (by omega) (by omega)
                          refine hx_il (l := 233) rfl rfl g286 (by omega) (by omega) (fun z295 h296 => ?_)
                          refine hx_anyl (l := 234) rfl rfl (fun z297 => ?_)
                          refine hx_ci (l := 237) (as := [.ref o, .int z61, .long z290, .long z297]) rfl rfl (hx_iv (j := 19) (n := 3) (o := o) (r := [.int z279, .ref p274]) rfl rfl g98 rfl) (h_X2_combined (fz := fz) hF (fun q hq => (by decide +kernel : ∀ q ∈ fb_X2_value0, q ∈ fb_X2_combined) q (hfz q hq)) (d + 0)) hw6 hf7 ⟨(hx_tr (G := G) (s := 5) (b := 0) hG0 (by decide)), (ck_top_ok (G := G) z61), (ck_ltop_ok (G := G) z290), (ck_ltop_ok (G := G) z297), trivial⟩ (fun w298 z303 hw299 hf300 m301 a304 b305 u306 => ?_)
                          have hs302 := ty_same_tr hs8 m301
                          obtain ⟨f307, g308, r309⟩ := hx_row hw299 hG276 (s := 20) (kd := 0) (n := 64) rfl (by decide)
                          refine hx_is (s := 20) (l := 238) rfl rfl rfl hw299 hG276 g308 (by omega) (by omega) hx_sg0 (fun w310 f311 g312 e313 o314 n315 hw316 n317 => ?_)
                          have hs318 := ty_same_tr hs302 (n317 fz (hx_ok hfz (by decide)))
                          have hf319 := hF _ _ (n317 pr_ (by decide)) hf300
                          refine hx_iinc (x := top) (n := (-1)) (l := 241) rfl rfl rfl (Nat.le_of_ble_eq_true rfl) (by omega) (by omega) (by decide) (fun z320 h321 => ?_)
                          change ab_wp ro (ab_Ev ro ab_codes (d + 1)) 2 false (some .int) ab_k_X2_value (fun o_1 => ∃ v w1, o_1 = (v, w1, 0, 0) ∧ ty_w sp_ G w1 ∧ F w1 ∧ ty_same G fz w w1 ∧ ck_res G (some (0, (-2147483648), 2147483647)) v ∧ ck_wit 0 0 [.ref o, .ref tx, .int s0, .ref wr] v) (241, [some (.ref o), some (.ref tx), some (.int s0), some (.ref wr), some (.int z320), some (.int at1), some (.int z61), some (.int z68)], [], w310, 0, 0)
                          refine ax_go 1 (y := (293, [some (.ref o), some (.ref tx), some (.int s0), some (.ref wr), some (.int z320), some (.int at1), some (.int z61), some (.int z68)], [], w310, 0, 0)) rfl trivial ?_
                          exact ct293 w310 z320 at1 z61 z68 hw316 hf319 hs318 (by omega) (by omega) (by omega) (by omega)
                      · -- 173
                        refine ax_go 1 (y := (174, [some (.ref o), some (.ref tx), some (.int s0), some (.ref wr), some (.int top), some (.int at1), some (.int z61), some (.int z68)], [.ref o], w1, 0, 0)) rfl trivial ?_
                        obtain ⟨p322, e323, hG324⟩ := hx_fr (k := 0) (s := 20) q99 rfl
                        refine hx_gf (l := 177) rfl rfl rfl g98 e323 ?_
                        refine ax_go 1 (y := (179, [some (.ref o), some (.ref tx), some (.int s0), some (.ref wr), some (.int top), some (.int at1), some (.int z61), some (.int z68)], [.int top, .ref p322], w1, 0, 0)) rfl trivial ?_
                        refine hx_k (l := 180) (m := 1) rfl rfl (by decide) (fun z325 h326 => ?_)
                        refine hx_sub (l := 181) rfl rfl (fun z327 h328 => ?_)
                        replace h328 := h328 (by omega) (by omega)
                        refine hx_k (l := 182) (m := 1) rfl rfl (by decide) (fun z329 h330 => ?_)
                        refine ax_go 1 (y := (183, [some (.ref o), some (.ref tx), some (.int s0), some (.ref wr), some (.int top), some (.int at1), some (.int z61), some (.int z68)], [.ref o, .int z329, .int z327, .ref p322], w1, 0, 0)) rfl trivial ?_
                        refine hx_gf (l := 186) rfl rfl rfl g98 e323 ?_
                        refine ax_go 1 (y := (188, [some (.ref o), some (.ref tx), some (.int s0), some (.ref wr), some (.int top), some (.int at1), some (.int z61), some (.int z68)], [.int top, .ref p322, .int z329, .int z327, .ref p322], w1, 0, 0)) rfl trivial ?_
                        refine hx_k (l := 189) (m := 1) rfl rfl (by decide) (fun z331 h332 => ?_)
                        refine hx_sub (l := 190) rfl rfl (fun z333 h334 => ?_)
                        replace h334 := h334 (by omega) (by omega)
                        obtain ⟨f335, g336, r337⟩ := hx_row hw6 hG324 (s := 20) (kd := 0) (n := 64) rfl (by decide)
                        refine hx_il (l := 191) rfl rfl g336 (by omega) (by omega) (fun z338 h339 => ?_)
                        refine hx_sub (l := 192) rfl rfl (fun z340 h341 => ?_)
                        refine hx_is (s := 20) (l := 193) rfl rfl rfl hw6 hG324 g336 (by omega) (by omega) hx_sg0 (fun w342 f343 g344 e345 o346 n347 hw348 n349 => ?_)
                        have hs350 := ty_same_tr hs8 (n349 fz (hx_ok hfz (by decide)))
                        have hf351 := hF _ _ (n349 pr_ (by decide)) hf7
                        refine ax_go 1 (y := (293, [some (.ref o), some (.ref tx), some (.int s0), some (.ref wr), some (.int top), some (.int at1), some (.int z61), some (.int z68)], [], w342, 0, 0)) rfl trivial ?_
                        exact ct293 w342 top at1 z61 z68 hw348 hf351 hs350 (by omega) (by omega) (by omega) (by omega)
                    · -- 152
                      refine ax_go 1 (y := (154, [some (.ref o), some (.ref tx), some (.int s0), some (.ref wr), some (.int top), some (.int at1), some (.int z61), some (.int z68)], [.int top], w1, 0, 0)) rfl trivial ?_
                      refine hx_k (l := 155) (m := 2) rfl rfl (by decide) (fun z352 h353 => ?_)
                      refine hx_ic_ge (l := 158) rfl rfl (fun h354 => ?_) (fun h354 => ?_)
                      · -- 166
                        refine ax_go 1 (y := (168, [some (.ref o), some (.ref tx), some (.int s0), some (.ref wr), some (.int top), some (.int at1), some (.int z61), some (.int z68)], [.int z61], w1, 0, 0)) rfl trivial ?_
                        refine hx_k (l := 170) (m := 11) rfl rfl (by decide) (fun z355 h356 => ?_)
                        refine hx_ic_ne (l := 173) rfl rfl (fun h357 => ?_) (fun h357 => ?_)
                        · -- 196
                          refine ax_go 1 (y := (198, [some (.ref o), some (.ref tx), some (.int s0), some (.ref wr), some (.int top), some (.int at1), some (.int z61), some (.int z68)], [.int z61], w1, 0, 0)) rfl trivial ?_
                          refine hx_k (l := 200) (m := 11) rfl rfl (by decide) (fun z358 h359 => ?_)
                          refine hx_ic_ge (l := 203) rfl rfl (fun h360 => ?_) (fun h360 => ?_)
                          · -- 244
                            refine ax_go 1 (y := (245, [some (.ref o), some (.ref tx), some (.int s0), some (.ref wr), some (.int top), some (.int at1), some (.int z61), some (.int z68)], [.ref o], w1, 0, 0)) rfl trivial ?_
                            obtain ⟨p361, e362, hG363⟩ := hx_fr (k := 0) (s := 20) q99 rfl
                            refine hx_gf (l := 248) rfl rfl rfl g98 e362 ?_
                            refine ax_go 1 (y := (250, [some (.ref o), some (.ref tx), some (.int s0), some (.ref wr), some (.int top), some (.int at1), some (.int z61), some (.int z68)], [.int top, .ref p361], w1, 0, 0)) rfl trivial ?_
                            refine hx_k (l := 251) (m := 1) rfl rfl (by decide) (fun z364 h365 => ?_)
                            refine hx_sub (l := 252) rfl rfl (fun z366 h367 => ?_)
                            replace h367 := h367 (by omega) (by omega)
                            obtain ⟨f368, g369, r370⟩ := hx_row hw6 hG363 (s := 20) (kd := 0) (n := 64) rfl (by decide)
                            refine hx_il (l := 253) rfl rfl g369 (by omega) (by omega) (fun z371 h372 => ?_)
                            refine hx_if_eq (l := 256) rfl rfl (fun h373 => ?_) (fun h373 => ?_)
                            · -- 260
                              refine hx_k (l := 261) (m := 0) rfl rfl (by decide) (fun z374 h375 => ?_)
                              refine ax_go 1 (y := (263, [some (.ref o), some (.ref tx), some (.int s0), some (.ref wr), some (.int top), some (.int at1), some (.int z61), some (.int z68)], [.int z61, .int z374], w1, 0, 0)) rfl trivial ?_
                              refine hx_k (l := 265) (m := 12) rfl rfl (by decide) (fun z376 h377 => ?_)
                              refine hx_ic_ne (l := 268) rfl rfl (fun h378 => ?_) (fun h378 => ?_)
                              · -- 272
                                refine hx_k (l := 273) (m := 0) rfl rfl (by decide) (fun z379 h380 => ?_)
                                refine hx_ic_ne (l := 276) rfl rfl (fun h381 => by omega) (fun h381 => ?_)
                                refine ax_go 2 (y := (280, [some (.ref o), some (.ref tx), some (.int s0), some (.ref wr), some (.int top), some (.int at1), some (.int z61), some (.int z68)], [.int z68, .int at1], w1, 0, 0)) rfl trivial ?_
                                refine hx_k (l := 281) (m := 1) rfl rfl (by decide) (fun z382 h383 => ?_)
                                refine hx_sub (l := 282) rfl rfl (fun z384 h385 => ?_)
                                replace h385 := h385 (by omega) (by omega)
                                refine hx_max (l := 285) rfl rfl (by decide) rfl (fun z386 h387 => ?_)
                                refine ax_go 2 (y := (293, [some (.ref o), some (.ref tx), some (.int s0), some (.ref wr), some (.int top), some (.int z386), some (.int z61), some (.int z68)], [], w1, 0, 0)) rfl trivial ?_
                                exact ct293 w1 top z386 z61 z68 hw6 hf7 hs8 (by omega) (by omega) (by omega) (by omega)
                              · -- 268
                                refine hx_k (l := 269) (m := 1) rfl rfl (by decide) (fun z388 h389 => ?_)
                                refine ax_go 1 (y := (273, [some (.ref o), some (.ref tx), some (.int s0), some (.ref wr), some (.int top), some (.int at1), some (.int z61), some (.int z68)], [.int z388, .int z374], w1, 0, 0)) rfl trivial ?_
                                refine hx_ic_ne (l := 276) rfl rfl (fun h390 => ?_) (fun h390 => by omega)
                                refine hx_iinc (x := top) (n := (-1)) (l := 293) rfl rfl rfl (Nat.le_of_ble_eq_true rfl) (by omega) (by omega) (by decide) (fun z391 h392 => ?_)
                                change ab_wp ro (ab_Ev ro ab_codes (d + 1)) 2 false (some .int) ab_k_X2_value (fun o_1 => ∃ v w1, o_1 = (v, w1, 0, 0) ∧ ty_w sp_ G w1 ∧ F w1 ∧ ty_same G fz w w1 ∧ ck_res G (some (0, (-2147483648), 2147483647)) v ∧ ck_wit 0 0 [.ref o, .ref tx, .int s0, .ref wr] v) (293, [some (.ref o), some (.ref tx), some (.int s0), some (.ref wr), some (.int z391), some (.int at1), some (.int z61), some (.int z68)], [], w1, 0, 0)
                                exact ct293 w1 z391 at1 z61 z68 hw6 hf7 hs8 (by omega) (by omega) (by omega) (by omega)
                            · -- 256
                              refine hx_k (l := 257) (m := 1) rfl rfl (by decide) (fun z393 h394 => ?_)
                              refine ax_go 2 (y := (263, [some (.ref o), some (.ref tx), some (.int s0), some (.ref wr), some (.int top), some (.int at1), some (.int z61), some (.int z68)], [.int z61, .int z393], w1, 0, 0)) rfl trivial ?_
                              refine hx_k (l := 265) (m := 12) rfl rfl (by decide) (fun z395 h396 => ?_)
                              refine hx_ic_ne (l := 268) rfl rfl (fun h397 => ?_) (fun h397 => ?_)
                              · -- 272
                                refine hx_k (l := 273) (m := 0) rfl rfl (by decide) (fun z398 h399 => ?_)
                                refine hx_ic_ne (l := 276) rfl rfl (fun h400 => ?_) (fun h400 => by omega)
                                refine hx_iinc (x := top) (n := (-1)) (l := 293) rfl rfl rfl (Nat.le_of_ble_eq_true rfl) (by omega) (by omega) (by decide) (fun z401 h402 => ?_)
                                change ab_wp ro (ab_Ev ro ab_codes (d + 1)) 2 false (some .int) ab_k_X2_value (fun o_1 => ∃ v w1, o_1 = (v, w1, 0, 0) ∧ ty_w sp_ G w1 ∧ F w1 ∧ ty_same G fz w w1 ∧ ck_res G (some (0, (-2147483648), 2147483647)) v ∧ ck_wit 0 0 [.ref o, .ref tx, .int s0, .ref wr] v) (293, [some (.ref o), some (.ref tx), some (.int s0), some (.ref wr), some (.int z401), some (.int at1), some (.int z61), some (.int z68)], [], w1, 0, 0)
                                exact ct293 w1 z401 at1 z61 z68 hw6 hf7 hs8 (by omega) (by omega) (by omega) (by omega)
                              · -- 268
                                refine hx_k (l := 269) (m := 1) rfl rfl (by decide) (fun z403 h404 => ?_)
                                refine ax_go 1 (y := (273, [some (.ref o), some (.ref tx), some (.int s0), some (.ref wr), some (.int top), some (.int at1), some (.int z61), some (.int z68)], [.int z403, .int z393], w1, 0, 0)) rfl trivial ?_
                                refine hx_ic_ne (l := 276) rfl rfl (fun h405 => by omega) (fun h405 => ?_)
                                refine ax_go 2 (y := (280, [some (.ref o), some (.ref tx), some (.int s0), some (.ref wr), some (.int top), some (.int at1), some (.int z61), some (.int z68)], [.int z68, .int at1], w1, 0, 0)) rfl trivial ?_
                                refine hx_k (l := 281) (m := 1) rfl rfl (by decide) (fun z406 h407 => ?_)
                                refine hx_sub (l := 282) rfl rfl (fun z408 h409 => ?_)
                                replace h409 := h409 (by omega) (by omega)
                                refine hx_max (l := 285) rfl rfl (by decide) rfl (fun z410 h411 => ?_)
                                refine ax_go 2 (y := (293, [some (.ref o), some (.ref tx), some (.int s0), some (.ref wr), some (.int top), some (.int z410), some (.int z61), some (.int z68)], [], w1, 0, 0)) rfl trivial ?_
                                exact ct293 w1 top z410 z61 z68 hw6 hf7 hs8 (by omega) (by omega) (by omega) (by omega)
                          · -- 203
                            refine ax_go 1 (y := (204, [some (.ref o), some (.ref tx), some (.int s0), some (.ref wr), some (.int top), some (.int at1), some (.int z61), some (.int z68)], [.ref o], w1, 0, 0)) rfl trivial ?_
                            obtain ⟨p412, e413, hG414⟩ := hx_fr (k := 0) (s := 20) q99 rfl
                            refine hx_gf (l := 207) rfl rfl rfl g98 e413 ?_
                            refine ax_go 1 (y := (209, [some (.ref o), some (.ref tx), some (.int s0), some (.ref wr), some (.int top), some (.int at1), some (.int z61), some (.int z68)], [.int top, .ref p412], w1, 0, 0)) rfl trivial ?_
                            refine hx_k (l := 210) (m := 2) rfl rfl (by decide) (fun z415 h416 => ?_)
                            refine hx_sub (l := 211) rfl rfl (fun z417 h418 => ?_)
                            replace h418 := h418 (by omega) (by omega)
                            refine ax_go 3 (y := (215, [some (.ref o), some (.ref tx), some (.int s0), some (.ref wr), some (.int top), some (.int at1), some (.int z61), some (.int z68)], [.ref o, .int z61, .ref o, .int z417, .ref p412], w1, 0, 0)) rfl trivial ?_
                            refine hx_gf (l := 218) rfl rfl rfl g98 e413 ?_
                            refine ax_go 1 (y := (220, [some (.ref o), some (.ref tx), some (.int s0), some (.ref wr), some (.int top), some (.int at1), some (.int z61), some (.int z68)], [.int top, .ref p412, .int z61, .ref o, .int z417, .ref p412], w1, 0, 0)) rfl trivial ?_
                            refine hx_k (l := 221) (m := 2) rfl rfl (by decide) (fun z419 h420 => ?_)
                            refine hx_sub (l := 222) rfl rfl (fun z421 h422 => ?_)
                            replace h422 := h422 (by omega) (by omega)
                            obtain ⟨f423, g424, r425⟩ := hx_row hw6 hG414 (s := 20) (kd := 0) (n := 64) rfl (by decide)
                            refine hx_il (l := 223) rfl rfl g424 (by omega) (by omega) (fun z426 h427 => ?_)
                            refine hx_anyl (l := 224) rfl rfl (fun z428 => ?_)
                            refine ax_go 1 (y := (225, [some (.ref o), some (.ref tx), some (.int s0), some (.ref wr), some (.int top), some (.int at1), some (.int z61), some (.int z68)], [.ref o, .long z428, .int z61, .ref o, .int z417, .ref p412], w1, 0, 0)) rfl trivial ?_
                            refine hx_gf (l := 228) rfl rfl rfl g98 e413 ?_
                            refine ax_go 1 (y := (230, [some (.ref o), some (.ref tx), some (.int s0), some (.ref wr), some (.int top), some (.int at1), some (.int z61), some (.int z68)], [.int top, .ref p412, .long z428, .int z61, .ref o, .int z417, .ref p412], w1, 0, 0)) rfl trivial ?_
                            refine hx_k (l := 231) (m := 1) rfl rfl (by decide) (fun z429 h430 => ?_)
                            refine hx_sub (l := 232) rfl rfl (fun z431 h432 => ?_)
                            replace h432 := h432 (by omega) (by omega)
                            refine hx_il (l := 233) rfl rfl g424 (by omega) (by omega) (fun z433 h434 => ?_)
                            refine hx_anyl (l := 234) rfl rfl (fun z435 => ?_)
                            refine hx_ci (l := 237) (as := [.ref o, .int z61, .long z428, .long z435]) rfl rfl (hx_iv (j := 19) (n := 3) (o := o) (r := [.int z417, .ref p412]) rfl rfl g98 rfl) (h_X2_combined (fz := fz) hF (fun q hq => (by decide +kernel : ∀ q ∈ fb_X2_value0, q ∈ fb_X2_combined) q (hfz q hq)) (d + 0)) hw6 hf7 ⟨(hx_tr (G := G) (s := 5) (b := 0) hG0 (by decide)), (ck_top_ok (G := G) z61), (ck_ltop_ok (G := G) z428), (ck_ltop_ok (G := G) z435), trivial⟩ (fun w436 z441 hw437 hf438 m439 a442 b443 u444 => ?_)
                            have hs440 := ty_same_tr hs8 m439
                            obtain ⟨f445, g446, r447⟩ := hx_row hw437 hG414 (s := 20) (kd := 0) (n := 64) rfl (by decide)
                            refine hx_is (s := 20) (l := 238) rfl rfl rfl hw437 hG414 g446 (by omega) (by omega) hx_sg0 (fun w448 f449 g450 e451 o452 n453 hw454 n455 => ?_)
                            have hs456 := ty_same_tr hs440 (n455 fz (hx_ok hfz (by decide)))
                            have hf457 := hF _ _ (n455 pr_ (by decide)) hf438
                            refine hx_iinc (x := top) (n := (-1)) (l := 241) rfl rfl rfl (Nat.le_of_ble_eq_true rfl) (by omega) (by omega) (by decide) (fun z458 h459 => ?_)
                            change ab_wp ro (ab_Ev ro ab_codes (d + 1)) 2 false (some .int) ab_k_X2_value (fun o_1 => ∃ v w1, o_1 = (v, w1, 0, 0) ∧ ty_w sp_ G w1 ∧ F w1 ∧ ty_same G fz w w1 ∧ ck_res G (some (0, (-2147483648), 2147483647)) v ∧ ck_wit 0 0 [.ref o, .ref tx, .int s0, .ref wr] v) (241, [some (.ref o), some (.ref tx), some (.int s0), some (.ref wr), some (.int z458), some (.int at1), some (.int z61), some (.int z68)], [], w448, 0, 0)
                            refine ax_go 1 (y := (293, [some (.ref o), some (.ref tx), some (.int s0), some (.ref wr), some (.int z458), some (.int at1), some (.int z61), some (.int z68)], [], w448, 0, 0)) rfl trivial ?_
                            exact ct293 w448 z458 at1 z61 z68 hw454 hf457 hs456 (by omega) (by omega) (by omega) (by omega)
                        · -- 173
                          refine ax_go 1 (y := (174, [some (.ref o), some (.ref tx), some (.int s0), some (.ref wr), some (.int top), some (.int at1), some (.int z61), some (.int z68)], [.ref o], w1, 0, 0)) rfl trivial ?_
                          obtain ⟨p460, e461, hG462⟩ := hx_fr (k := 0) (s := 20) q99 rfl
                          refine hx_gf (l := 177) rfl rfl rfl g98 e461 ?_
                          refine ax_go 1 (y := (179, [some (.ref o), some (.ref tx), some (.int s0), some (.ref wr), some (.int top), some (.int at1), some (.int z61), some (.int z68)], [.int top, .ref p460], w1, 0, 0)) rfl trivial ?_
                          refine hx_k (l := 180) (m := 1) rfl rfl (by decide) (fun z463 h464 => ?_)
                          refine hx_sub (l := 181) rfl rfl (fun z465 h466 => ?_)
                          replace h466 := h466 (by omega) (by omega)
                          refine hx_k (l := 182) (m := 1) rfl rfl (by decide) (fun z467 h468 => ?_)
                          refine ax_go 1 (y := (183, [some (.ref o), some (.ref tx), some (.int s0), some (.ref wr), some (.int top), some (.int at1), some (.int z61), some (.int z68)], [.ref o, .int z467, .int z465, .ref p460], w1, 0, 0)) rfl trivial ?_
                          refine hx_gf (l := 186) rfl rfl rfl g98 e461 ?_
                          refine ax_go 1 (y := (188, [some (.ref o), some (.ref tx), some (.int s0), some (.ref wr), some (.int top), some (.int at1), some (.int z61), some (.int z68)], [.int top, .ref p460, .int z467, .int z465, .ref p460], w1, 0, 0)) rfl trivial ?_
                          refine hx_k (l := 189) (m := 1) rfl rfl (by decide) (fun z469 h470 => ?_)
                          refine hx_sub (l := 190) rfl rfl (fun z471 h472 => ?_)
                          replace h472 := h472 (by omega) (by omega)
                          obtain ⟨f473, g474, r475⟩ := hx_row hw6 hG462 (s := 20) (kd := 0) (n := 64) rfl (by decide)
                          refine hx_il (l := 191) rfl rfl g474 (by omega) (by omega) (fun z476 h477 => ?_)
                          refine hx_sub (l := 192) rfl rfl (fun z478 h479 => ?_)
                          refine hx_is (s := 20) (l := 193) rfl rfl rfl hw6 hG462 g474 (by omega) (by omega) hx_sg0 (fun w480 f481 g482 e483 o484 n485 hw486 n487 => ?_)
                          have hs488 := ty_same_tr hs8 (n487 fz (hx_ok hfz (by decide)))
                          have hf489 := hF _ _ (n487 pr_ (by decide)) hf7
                          refine ax_go 1 (y := (293, [some (.ref o), some (.ref tx), some (.int s0), some (.ref wr), some (.int top), some (.int at1), some (.int z61), some (.int z68)], [], w480, 0, 0)) rfl trivial ?_
                          exact ct293 w480 top at1 z61 z68 hw486 hf489 hs488 (by omega) (by omega) (by omega) (by omega)
                      · -- 158
                        refine ax_go 1 (y := (159, [some (.ref o), some (.ref tx), some (.int s0), some (.ref wr), some (.int top), some (.int at1), some (.int z61), some (.int z68)], [.ref o], w1, 0, 0)) rfl trivial ?_
                        refine hx_k (l := 160) (m := 1) rfl rfl (by decide) (fun z490 h491 => ?_)
                        refine hx_pf (q := (0, 0, 0, 0, 0, 1)) (s := 5) (l := 163) (v := .int z490) rfl rfl rfl (by decide) rfl rfl rfl hw6 hG0 g98 ⟨hx_01 (by omega) (by omega), trivial⟩ (hx_ti (G := G) (lo := 0) (hi := 1) (by omega) (by omega)) (fun w492 fs493 g494 e495 o496 n497 hw498 n499 => ?_)
                        have hs500 := ty_same_tr hs8 (n499 fz (hx_ok hfz (by decide)))
                        have hf501 := hF _ _ (n499 pr_ (by decide)) hf7
                        refine ax_go 1 (y := (293, [some (.ref o), some (.ref tx), some (.int s0), some (.ref wr), some (.int top), some (.int at1), some (.int z61), some (.int z68)], [], w492, 0, 0)) rfl trivial ?_
                        exact ct293 w492 top at1 z61 z68 hw498 hf501 hs500 (by omega) (by omega) (by omega) (by omega)
                · -- 77
                  refine ax_go 2 (y := (80, [some (.ref o), some (.ref tx), some (.int s0), some (.ref wr), some (.int top), some (.int at1), some (.int z61), some (.int z68)], [.ref o, .int top], w1, 0, 0)) rfl trivial ?_
                  obtain ⟨p502, e503, hG504⟩ := hx_fr (k := 0) (s := 20) q99 rfl
                  refine hx_gf (l := 83) rfl rfl rfl g98 e503 ?_
                  obtain ⟨f505, g506, r507⟩ := hx_row hw6 hG504 (s := 20) (kd := 0) (n := 64) rfl (by decide)
                  refine hx_len (l := 84) rfl rfl g506 rfl (by omega) (fun z508 h509 => ?_)
                  refine hx_ic_lt (l := 87) rfl rfl (fun h510 => ?_) (fun h510 => ?_)
                  · -- 95
                    refine ax_go 1 (y := (96, [some (.ref o), some (.ref tx), some (.int s0), some (.ref wr), some (.int top), some (.int at1), some (.int z61), some (.int z68)], [.ref o], w1, 0, 0)) rfl trivial ?_
                    refine hx_gf (l := 99) rfl rfl rfl g98 e503 ?_
                    refine ax_go 2 (y := (103, [some (.ref o), some (.ref tx), some (.int s0), some (.ref wr), some (.int top), some (.int at1), some (.int z61), some (.int z68)], [.int z61, .int top, .ref p502], w1, 0, 0)) rfl trivial ?_
                    refine hx_k (l := 104) (m := 1) rfl rfl (by decide) (fun z511 h512 => ?_)
                    refine hx_ic_ne (l := 107) rfl rfl (fun h513 => ?_) (fun h513 => ?_)
                    · -- 112
                      refine ax_go 1 (y := (114, [some (.ref o), some (.ref tx), some (.int s0), some (.ref wr), some (.int top), some (.int at1), some (.int z61), some (.int z68)], [.int z68, .int top, .ref p502], w1, 0, 0)) rfl trivial ?_
                      refine hx_if_lt (l := 117) rfl rfl (fun h514 => ?_) (fun h514 => ?_)
                      · -- 131
                        refine hx_k (l := 132) (m := 0) rfl rfl (by decide) (fun z515 h516 => ?_)
                        refine hx_is (s := 20) (l := 133) rfl rfl rfl hw6 hG504 g506 (by omega) (by omega) hx_sg0 (fun w517 f518 g519 e520 o521 n522 hw523 n524 => ?_)
                        have hs525 := ty_same_tr hs8 (n524 fz (hx_ok hfz (by decide)))
                        have hf526 := hF _ _ (n524 pr_ (by decide)) hf7
                        refine hx_iinc (x := top) (n := 1) (l := 136) rfl rfl rfl (Nat.le_of_ble_eq_true rfl) (by omega) (by omega) (by decide) (fun z527 h528 => ?_)
                        change ab_wp ro (ab_Ev ro ab_codes (d + 1)) 2 false (some .int) ab_k_X2_value (fun o_1 => ∃ v w1, o_1 = (v, w1, 0, 0) ∧ ty_w sp_ G w1 ∧ F w1 ∧ ty_same G fz w w1 ∧ ck_res G (some (0, (-2147483648), 2147483647)) v ∧ ck_wit 0 0 [.ref o, .ref tx, .int s0, .ref wr] v) (136, [some (.ref o), some (.ref tx), some (.int s0), some (.ref wr), some (.int z527), some (.int at1), some (.int z61), some (.int z68)], [], w517, 0, 0)
                        refine ax_go 1 (y := (293, [some (.ref o), some (.ref tx), some (.int s0), some (.ref wr), some (.int z527), some (.int at1), some (.int z61), some (.int z68)], [], w517, 0, 0)) rfl trivial ?_
                        exact ct293 w517 z527 at1 z61 z68 hw523 hf526 hs525 (by omega) (by omega) (by omega) (by omega)
                      · -- 117
                        refine ax_go 2 (y := (120, [some (.ref o), some (.ref tx), some (.int s0), some (.ref wr), some (.int top), some (.int at1), some (.int z61), some (.int z68)], [.ref wr, .int z68, .int top, .ref p502], w1, 0, 0)) rfl trivial ?_
                        obtain ⟨f529, g530, r531⟩ := hx_row hw6 hG3 (s := 14) (kd := 0) (n := 8) rfl (by decide)
                        refine hx_len (l := 121) rfl rfl g530 rfl (by omega) (fun z532 h533 => ?_)
                        refine hx_ic_ge (l := 124) rfl rfl (fun h534 => ?_) (fun h534 => ?_)
                        · -- 131
                          refine hx_k (l := 132) (m := 0) rfl rfl (by decide) (fun z535 h536 => ?_)
                          refine hx_is (s := 20) (l := 133) rfl rfl rfl hw6 hG504 g506 (by omega) (by omega) hx_sg0 (fun w537 f538 g539 e540 o541 n542 hw543 n544 => ?_)
                          have hs545 := ty_same_tr hs8 (n544 fz (hx_ok hfz (by decide)))
                          have hf546 := hF _ _ (n544 pr_ (by decide)) hf7
                          refine hx_iinc (x := top) (n := 1) (l := 136) rfl rfl rfl (Nat.le_of_ble_eq_true rfl) (by omega) (by omega) (by decide) (fun z547 h548 => ?_)
                          change ab_wp ro (ab_Ev ro ab_codes (d + 1)) 2 false (some .int) ab_k_X2_value (fun o_1 => ∃ v w1, o_1 = (v, w1, 0, 0) ∧ ty_w sp_ G w1 ∧ F w1 ∧ ty_same G fz w w1 ∧ ck_res G (some (0, (-2147483648), 2147483647)) v ∧ ck_wit 0 0 [.ref o, .ref tx, .int s0, .ref wr] v) (136, [some (.ref o), some (.ref tx), some (.int s0), some (.ref wr), some (.int z547), some (.int at1), some (.int z61), some (.int z68)], [], w537, 0, 0)
                          refine ax_go 1 (y := (293, [some (.ref o), some (.ref tx), some (.int s0), some (.ref wr), some (.int z547), some (.int at1), some (.int z61), some (.int z68)], [], w537, 0, 0)) rfl trivial ?_
                          exact ct293 w537 z547 at1 z61 z68 hw543 hf546 hs545 (by omega) (by omega) (by omega) (by omega)
                        · -- 124
                          refine ax_go 2 (y := (127, [some (.ref o), some (.ref tx), some (.int s0), some (.ref wr), some (.int top), some (.int at1), some (.int z61), some (.int z68)], [.int z68, .ref wr, .int top, .ref p502], w1, 0, 0)) rfl trivial ?_
                          refine hx_il (l := 128) rfl rfl g530 (by omega) (by omega) (fun z549 h550 => ?_)
                          refine ax_go 1 (y := (132, [some (.ref o), some (.ref tx), some (.int s0), some (.ref wr), some (.int top), some (.int at1), some (.int z61), some (.int z68)], [.int z549, .int top, .ref p502], w1, 0, 0)) rfl trivial ?_
                          refine hx_is (s := 20) (l := 133) rfl rfl rfl hw6 hG504 g506 (by omega) (by omega) hx_sg0 (fun w551 f552 g553 e554 o555 n556 hw557 n558 => ?_)
                          have hs559 := ty_same_tr hs8 (n558 fz (hx_ok hfz (by decide)))
                          have hf560 := hF _ _ (n558 pr_ (by decide)) hf7
                          refine hx_iinc (x := top) (n := 1) (l := 136) rfl rfl rfl (Nat.le_of_ble_eq_true rfl) (by omega) (by omega) (by decide) (fun z561 h562 => ?_)
                          change ab_wp ro (ab_Ev ro ab_codes (d + 1)) 2 false (some .int) ab_k_X2_value (fun o_1 => ∃ v w1, o_1 = (v, w1, 0, 0) ∧ ty_w sp_ G w1 ∧ F w1 ∧ ty_same G fz w w1 ∧ ck_res G (some (0, (-2147483648), 2147483647)) v ∧ ck_wit 0 0 [.ref o, .ref tx, .int s0, .ref wr] v) (136, [some (.ref o), some (.ref tx), some (.int s0), some (.ref wr), some (.int z561), some (.int at1), some (.int z61), some (.int z68)], [], w551, 0, 0)
                          refine ax_go 1 (y := (293, [some (.ref o), some (.ref tx), some (.int s0), some (.ref wr), some (.int z561), some (.int at1), some (.int z61), some (.int z68)], [], w551, 0, 0)) rfl trivial ?_
                          exact ct293 w551 z561 at1 z61 z68 hw557 hf560 hs559 (by omega) (by omega) (by omega) (by omega)
                    · -- 107
                      refine ax_go 2 (y := (132, [some (.ref o), some (.ref tx), some (.int s0), some (.ref wr), some (.int top), some (.int at1), some (.int z61), some (.int z68)], [.int z68, .int top, .ref p502], w1, 0, 0)) rfl trivial ?_
                      refine hx_is (s := 20) (l := 133) rfl rfl rfl hw6 hG504 g506 (by omega) (by omega) hx_sg0 (fun w563 f564 g565 e566 o567 n568 hw569 n570 => ?_)
                      have hs571 := ty_same_tr hs8 (n570 fz (hx_ok hfz (by decide)))
                      have hf572 := hF _ _ (n570 pr_ (by decide)) hf7
                      refine hx_iinc (x := top) (n := 1) (l := 136) rfl rfl rfl (Nat.le_of_ble_eq_true rfl) (by omega) (by omega) (by decide) (fun z573 h574 => ?_)
                      change ab_wp ro (ab_Ev ro ab_codes (d + 1)) 2 false (some .int) ab_k_X2_value (fun o_1 => ∃ v w1, o_1 = (v, w1, 0, 0) ∧ ty_w sp_ G w1 ∧ F w1 ∧ ty_same G fz w w1 ∧ ck_res G (some (0, (-2147483648), 2147483647)) v ∧ ck_wit 0 0 [.ref o, .ref tx, .int s0, .ref wr] v) (136, [some (.ref o), some (.ref tx), some (.int s0), some (.ref wr), some (.int z573), some (.int at1), some (.int z61), some (.int z68)], [], w563, 0, 0)
                      refine ax_go 1 (y := (293, [some (.ref o), some (.ref tx), some (.int s0), some (.ref wr), some (.int z573), some (.int at1), some (.int z61), some (.int z68)], [], w563, 0, 0)) rfl trivial ?_
                      exact ct293 w563 z573 at1 z61 z68 hw569 hf572 hs571 (by omega) (by omega) (by omega) (by omega)
                  · -- 87
                    refine ax_go 1 (y := (88, [some (.ref o), some (.ref tx), some (.int s0), some (.ref wr), some (.int top), some (.int at1), some (.int z61), some (.int z68)], [.ref o], w1, 0, 0)) rfl trivial ?_
                    refine hx_k (l := 89) (m := 1) rfl rfl (by decide) (fun z575 h576 => ?_)
                    refine hx_pf (q := (0, 0, 0, 0, 0, 1)) (s := 5) (l := 92) (v := .int z575) rfl rfl rfl (by decide) rfl rfl rfl hw6 hG0 g98 ⟨hx_01 (by omega) (by omega), trivial⟩ (hx_ti (G := G) (lo := 0) (hi := 1) (by omega) (by omega)) (fun w577 fs578 g579 e580 o581 n582 hw583 n584 => ?_)
                    have hs585 := ty_same_tr hs8 (n584 fz (hx_ok hfz (by decide)))
                    have hf586 := hF _ _ (n584 pr_ (by decide)) hf7
                    refine ax_go 2 (y := (300, [some (.ref o), some (.ref tx), some (.int s0), some (.ref wr), some (.int top), some (.int at1), some (.int z61), some (.int z68)], [.ref o], w577, 0, 0)) rfl trivial ?_
                    refine hx_gf (l := 303) rfl rfl rfl g579 e580 ?_
                    refine hx_if_ne (l := 306) rfl rfl (fun h587 => ?_) (fun h587 => by omega)
                    refine hx_k (l := 313) (m := 0) rfl rfl (by decide) (fun z588 h589 => ?_)
                    refine ax_go 1 (y := (322, [some (.ref o), some (.ref tx), some (.int s0), some (.ref wr), some (.int top), some (.int at1), some (.int z61), some (.int z68)], [.int z588], w577, 0, 0)) rfl trivial ?_
                    exact ax_ret rfl rfl trivial ⟨some (.int z588), _, rfl, hw583, hf586, hs585, (ck_top_ok (G := G) z588), trivial⟩
            · -- 62
              refine ax_go 2 (y := (300, [some (.ref o), some (.ref tx), some (.int s0), some (.ref wr), some (.int top), some (.int at1), some (.int z61), some (.int z68)], [.ref o], w1, 0, 0)) rfl trivial ?_
              refine hx_gf (l := 303) rfl rfl rfl g98 e101 ?_
              refine hx_if_ne (l := 306) rfl rfl (fun h590 => ?_) (fun h590 => ?_)
              · -- 312
                refine hx_k (l := 313) (m := 0) rfl rfl (by decide) (fun z591 h592 => ?_)
                refine ax_go 1 (y := (322, [some (.ref o), some (.ref tx), some (.int s0), some (.ref wr), some (.int top), some (.int at1), some (.int z61), some (.int z68)], [.int z591], w1, 0, 0)) rfl trivial ?_
                exact ax_ret rfl rfl trivial ⟨some (.int z591), _, rfl, hw6, hf7, hs8, (ck_top_ok (G := G) z591), trivial⟩
              · -- 306
                refine ax_go 1 (y := (308, [some (.ref o), some (.ref tx), some (.int s0), some (.ref wr), some (.int top), some (.int at1), some (.int z61), some (.int z68)], [.int top], w1, 0, 0)) rfl trivial ?_
                refine hx_k (l := 309) (m := 1) rfl rfl (by decide) (fun z593 h594 => ?_)
                refine hx_ic_ge (l := 312) rfl rfl (fun h595 => ?_) (fun h595 => ?_)
                · -- 316
                  refine ax_go 1 (y := (317, [some (.ref o), some (.ref tx), some (.int s0), some (.ref wr), some (.int top), some (.int at1), some (.int z61), some (.int z68)], [.ref o], w1, 0, 0)) rfl trivial ?_
                  obtain ⟨p596, e597, hG598⟩ := hx_fr (k := 0) (s := 20) q99 rfl
                  refine hx_gf (l := 320) rfl rfl rfl g98 e597 ?_
                  refine hx_k (l := 321) (m := 0) rfl rfl (by decide) (fun z599 h600 => ?_)
                  obtain ⟨f601, g602, r603⟩ := hx_row hw6 hG598 (s := 20) (kd := 0) (n := 64) rfl (by decide)
                  refine hx_il (l := 322) rfl rfl g602 (by omega) (by omega) (fun z604 h605 => ?_)
                  exact ax_ret rfl rfl trivial ⟨some (.int z604), _, rfl, hw6, hf7, hs8, (ck_top_ok (G := G) z604), trivial⟩
                · -- 312
                  refine hx_k (l := 313) (m := 0) rfl rfl (by decide) (fun z606 h607 => ?_)
                  refine ax_go 1 (y := (322, [some (.ref o), some (.ref tx), some (.int s0), some (.ref wr), some (.int top), some (.int at1), some (.int z61), some (.int z68)], [.int z606], w1, 0, 0)) rfl trivial ?_
                  exact ax_ret rfl rfl trivial ⟨some (.int z606), _, rfl, hw6, hf7, hs8, (ck_top_ok (G := G) z606), trivial⟩
    change ab_wp ro (ab_Ev ro ab_codes (d + 1)) 2 false (some .int) ab_k_X2_value (fun o_1 => ∃ v w1, o_1 = (v, w1, 0, 0) ∧ ty_w sp_ G w1 ∧ F w1 ∧ ty_same G fz w w1 ∧ ck_res G (some (0, (-2147483648), 2147483647)) v ∧ ck_wit 0 0 [.ref o, .ref tx, .int s0, .ref wr] v) (0, [some (.ref o), some (.ref tx), some (.int s0), some (.ref wr), none, none, none, none], [], w, 0, 0)
    refine ax_go 1 (y := (1, [some (.ref o), some (.ref tx), some (.int s0), some (.ref wr), none, none, none, none], [.ref o], w, 0, 0)) rfl trivial ?_
    refine hx_k (l := 2) (m := 0) rfl rfl (by decide) (fun z608 h609 => ?_)
    obtain ⟨fs610, g611, -, q612⟩ := hx_obj hw hG0 (s := 5) rfl (by decide)
    refine hx_pf (q := (0, 0, 0, 0, 0, 1)) (s := 5) (l := 5) (v := .int z608) rfl rfl rfl (by decide) rfl rfl rfl hw hG0 g611 ⟨hx_01 (by omega) (by omega), trivial⟩ (hx_ti (G := G) (lo := 0) (hi := 1) (by omega) (by omega)) (fun w613 fs614 g615 e616 o617 n618 hw619 n620 => ?_)
    have hs621 := ty_same_tr (ty_same_rf w) (n620 fz (hx_ok hfz (by decide)))
    have hf622 := hF _ _ (n620 pr_ (by decide)) hf
    refine ax_go 1 (y := (6, [some (.ref o), some (.ref tx), some (.int s0), some (.ref wr), none, none, none, none], [.int s0], w613, 0, 0)) rfl trivial ?_
    refine hx_if_ge (l := 9) rfl rfl (fun h623 => ?_) (fun h623 => ?_)
    · -- 11
      refine hx_k (l := 12) (m := 0) rfl rfl (by decide) (fun z624 h625 => ?_)
      refine ax_go 3 (y := (17, [some (.ref o), some (.ref tx), some (.int s0), some (.ref wr), some (.int z624), some (.int s0), none, none], [], w613, 0, 0)) rfl trivial ?_
      exact ct17 _ w613 z624 s0 none none hw619 hf622 hs621 (by omega) (by omega) (by omega) (by omega) (Nat.lt_succ_self _)
    · -- 9
      refine hx_k (l := 10) (m := 1) rfl rfl (by decide) (fun z626 h627 => ?_)
      exact ax_ret rfl rfl trivial ⟨some (.int z626), _, rfl, hw619, hf622, hs621, (ck_top_ok (G := G) z626), trivial⟩
def fb_X2_value1 : List (Nat × Nat) := [(8, 3), (8, 5), (19, 999), (32, 999), (33, 999), (34, 999), (35, 999), (44, 999), (45, 999), (1, 0), (18, 999), (2, 11), (2, 14), (1, 15), (54, 11), (4, 2), (7, 9), (30, 13), (30, 34), (30, 2), (30, 22), (30, 23), (30, 24), (30, 25), (46, 999), (47, 999), (30, 35), (30, 36), (7, 0), (24, 999), (37, 999), (30, 4), (30, 5), (30, 6), (30, 8), (30, 9), (30, 10), (30, 11), (30, 14), (30, 15), (30, 16), (30, 17), (30, 18), (30, 19), (30, 20), (30, 21), (39, 999), (40, 999), (41, 999), (30, 30), (30, 42), (30, 43), (30, 44), (1, 1), (1, 3), (1, 10), (1, 13), (8, 0), (30, 49), (2, 15), (8, 1)]
set_option maxHeartbeats 8000000 in
theorem h_X2_value1 {ro : ab_R} {G : Nat → Nat} {fz : List (Nat × Nat)} {F : ab_W → Prop} (hF : ∀ w w', ty_same G pr_ w w' → F w → F w') (hfz : ∀ q ∈ fz, q ∈ fb_X2_value1) (d : Nat) : ck_ct ro sp_ G F fz (ab_Ev ro ab_codes (d + 2)) 18 [(2, 5, 0), (2, 9, 0), (0, (-2147483648), 2147483647), (2, 21, 0)] (some (0, (-2147483648), 2147483647)) 0 0 := by
  refine ck_hand (d := d + 1) (by decide) (fun as w hw hf has => ?_)
  match as, has with
  | [v0, v1, v2, v3], ⟨h0, h1, h2, h3, _⟩ =>
    obtain ⟨o, rfl, _, hG0⟩ := ty_refn h0 rfl rfl
    replace hG0 : G o = 5 := hG0
    obtain ⟨tx, rfl, _, hG1⟩ := ty_refn h1 rfl rfl
    replace hG1 : G tx = 9 := hG1
    obtain ⟨s0, rfl, hl2, hh2⟩ := ty_int h2 rfl
    replace hl2 : ((-2147483648) : Int) ≤ s0.toInt := hl2
    replace hh2 : s0.toInt ≤ 2147483647 := hh2
    obtain ⟨wr, rfl, _, hG3⟩ := ty_refn h3 rfl rfl
    replace hG3 : G wr = 21 := hG3
    refine ⟨rfl, ?_⟩
    have ct17 : ∀ (nq : Nat) (w1 : ab_W) (top : Int32) (at1 : Int32) (u6 : Option Int32) (u7 : Option Int32), ty_w sp_ G w1 → F w1 → ty_same G fz w w1 → (0 ≤ top.toInt) → (top.toInt ≤ 64) → (0 ≤ at1.toInt) → (at1.toInt ≤ 2147483647) → (2147483647 - at1.toInt).toNat < nq → ab_wp ro (ab_Ev ro ab_codes (d + 1)) 2 false (some .int) ab_k_X2_value (fun o_1 => ∃ v w1, o_1 = (v, w1, 0, 0) ∧ ty_w sp_ G w1 ∧ F w1 ∧ ty_same G fz w w1 ∧ ck_res G (some (0, (-2147483648), 2147483647)) v ∧ ck_wit 0 0 [.ref o, .ref tx, .int s0, .ref wr] v) (17, [some (.ref o), some (.ref tx), some (.int s0), some (.ref wr), some (.int top), some (.int at1), (u6.map Value.int), (u7.map Value.int)], [], w1, 0, 0) := by
      intro nq
      induction nq with
      | zero => intro w1 top at1 u6 u7 hw6 hf7 hs8 i2 i3 i4 i5 hm; exact absurd hm (Nat.not_lt_zero _)
      | succ nq ih17 =>
        intro w1 top at1 u6 u7 hw6 hf7 hs8 i2 i3 i4 i5 hm17
        have ct293 : ∀ (w9 : ab_W) (top2 : Int32) (at2 : Int32) (wh2 : Int32) (wi2 : Int32), ty_w sp_ G w9 → F w9 → ty_same G fz w w9 → (0 ≤ top2.toInt) → (top2.toInt ≤ 64) → (at1.toInt ≤ at2.toInt) → (at2.toInt < 2147483647) → ab_wp ro (ab_Ev ro ab_codes (d + 1)) 2 false (some .int) ab_k_X2_value (fun o_1 => ∃ v w1, o_1 = (v, w1, 0, 0) ∧ ty_w sp_ G w1 ∧ F w1 ∧ ty_same G fz w w1 ∧ ck_res G (some (0, (-2147483648), 2147483647)) v ∧ ck_wit 0 0 [.ref o, .ref tx, .int s0, .ref wr] v) (293, [some (.ref o), some (.ref tx), some (.int s0), some (.ref wr), some (.int top2), some (.int at2), some (.int wh2), some (.int wi2)], [], w9, 0, 0) := by
          intro w9 top2 at2 wh2 wi2 hw14 hf15 hs16 i10 i11 i12 i13
          refine hx_iinc (x := at2) (n := 1) (l := 296) rfl rfl rfl (Nat.le_of_ble_eq_true rfl) (by omega) (by omega) (by decide) (fun z17 h18 => ?_)
          change ab_wp ro (ab_Ev ro ab_codes (d + 1)) 2 false (some .int) ab_k_X2_value (fun o_1 => ∃ v w1, o_1 = (v, w1, 0, 0) ∧ ty_w sp_ G w1 ∧ F w1 ∧ ty_same G fz w w1 ∧ ck_res G (some (0, (-2147483648), 2147483647)) v ∧ ck_wit 0 0 [.ref o, .ref tx, .int s0, .ref wr] v) (296, [some (.ref o), some (.ref tx), some (.int s0), some (.ref wr), some (.int top2), some (.int z17), some (.int wh2), some (.int wi2)], [], w9, 0, 0)
          refine ax_go 1 (y := (17, [some (.ref o), some (.ref tx), some (.int s0), some (.ref wr), some (.int top2), some (.int z17), some (.int wh2), some (.int wi2)], [], w9, 0, 0)) rfl trivial ?_
          exact ih17 w9 top2 z17 (some wh2) (some wi2) hw14 hf15 hs16 (by omega) (by omega) (by omega) (by omega) (by omega)
        refine ax_go 2 (y := (20, [some (.ref o), some (.ref tx), some (.int s0), some (.ref wr), some (.int top), some (.int at1), (u6.map Value.int), (u7.map Value.int)], [.ref tx, .int at1], w1, 0, 0)) rfl trivial ?_
        obtain ⟨fs19, g20, -, q21⟩ := hx_obj hw6 hG1 (s := 9) rfl (by decide)
        obtain ⟨p22, e23, hG24⟩ := hx_fr (k := 0) (s := 25) q21 rfl
        refine hx_gf (l := 23) rfl rfl rfl g20 e23 ?_
        obtain ⟨f25, g26, r27⟩ := hx_row hw6 hG24 (s := 25) (kd := 0) (n := 436) rfl (by decide)
        refine hx_len (l := 24) rfl rfl g26 rfl (by omega) (fun z28 h29 => ?_)
        refine hx_ic_ge (l := 27) rfl rfl (fun h30 => ?_) (fun h30 => ?_)
        · -- 299
          refine ax_go 1 (y := (300, [some (.ref o), some (.ref tx), some (.int s0), some (.ref wr), some (.int top), some (.int at1), (u6.map Value.int), (u7.map Value.int)], [.ref o], w1, 0, 0)) rfl trivial ?_
          obtain ⟨fs31, g32, -, q33⟩ := hx_obj hw6 hG0 (s := 5) rfl (by decide)
          obtain ⟨x34, e35, a36, b37⟩ := hx_fi (k := 1) (lo := 0) (hi := 1) q33 rfl
          refine hx_gf (l := 303) rfl rfl rfl g32 e35 ?_
          refine hx_if_ne (l := 306) rfl rfl (fun h38 => ?_) (fun h38 => ?_)
          · -- 312
            refine hx_k (l := 313) (m := 0) rfl rfl (by decide) (fun z39 h40 => ?_)
            refine ax_go 1 (y := (322, [some (.ref o), some (.ref tx), some (.int s0), some (.ref wr), some (.int top), some (.int at1), (u6.map Value.int), (u7.map Value.int)], [.int z39], w1, 0, 0)) rfl trivial ?_
            exact ax_ret rfl rfl trivial ⟨some (.int z39), _, rfl, hw6, hf7, hs8, (ck_top_ok (G := G) z39), trivial⟩
          · -- 306
            refine ax_go 1 (y := (308, [some (.ref o), some (.ref tx), some (.int s0), some (.ref wr), some (.int top), some (.int at1), (u6.map Value.int), (u7.map Value.int)], [.int top], w1, 0, 0)) rfl trivial ?_
            refine hx_k (l := 309) (m := 1) rfl rfl (by decide) (fun z41 h42 => ?_)
            refine hx_ic_ge (l := 312) rfl rfl (fun h43 => ?_) (fun h43 => ?_)
            · -- 316
              refine ax_go 1 (y := (317, [some (.ref o), some (.ref tx), some (.int s0), some (.ref wr), some (.int top), some (.int at1), (u6.map Value.int), (u7.map Value.int)], [.ref o], w1, 0, 0)) rfl trivial ?_
              obtain ⟨p44, e45, hG46⟩ := hx_fr (k := 0) (s := 20) q33 rfl
              refine hx_gf (l := 320) rfl rfl rfl g32 e45 ?_
              refine hx_k (l := 321) (m := 0) rfl rfl (by decide) (fun z47 h48 => ?_)
              obtain ⟨f49, g50, r51⟩ := hx_row hw6 hG46 (s := 20) (kd := 0) (n := 64) rfl (by decide)
              refine hx_il (l := 322) rfl rfl g50 (by omega) (by omega) (fun z52 h53 => ?_)
              exact ax_ret rfl rfl trivial ⟨some (.int z52), _, rfl, hw6, hf7, hs8, (ck_top_ok (G := G) z52), trivial⟩
            · -- 312
              refine hx_k (l := 313) (m := 0) rfl rfl (by decide) (fun z54 h55 => ?_)
              refine ax_go 1 (y := (322, [some (.ref o), some (.ref tx), some (.int s0), some (.ref wr), some (.int top), some (.int at1), (u6.map Value.int), (u7.map Value.int)], [.int z54], w1, 0, 0)) rfl trivial ?_
              exact ax_ret rfl rfl trivial ⟨some (.int z54), _, rfl, hw6, hf7, hs8, (ck_top_ok (G := G) z54), trivial⟩
        · -- 27
          refine ax_go 1 (y := (28, [some (.ref o), some (.ref tx), some (.int s0), some (.ref wr), some (.int top), some (.int at1), (u6.map Value.int), (u7.map Value.int)], [.ref tx], w1, 0, 0)) rfl trivial ?_
          refine hx_gf (l := 31) rfl rfl rfl g20 e23 ?_
          refine ax_go 1 (y := (33, [some (.ref o), some (.ref tx), some (.int s0), some (.ref wr), some (.int top), some (.int at1), (u6.map Value.int), (u7.map Value.int)], [.int at1, .ref p22], w1, 0, 0)) rfl trivial ?_
          refine hx_il (l := 34) rfl rfl g26 (by omega) (by omega) (fun z56 h57 => ?_)
          refine hx_k (l := 36) (m := 15) rfl rfl (by decide) (fun z58 h59 => ?_)
          refine hx_and (l := 37) (m := 15) rfl rfl (by omega) (by decide) (fun z60 h61 h62 => ?_)
          refine ax_go 2 (y := (40, [some (.ref o), some (.ref tx), some (.int s0), some (.ref wr), some (.int top), some (.int at1), some (.int z60), (u7.map Value.int)], [.ref tx], w1, 0, 0)) rfl trivial ?_
          refine hx_gf (l := 43) rfl rfl rfl g20 e23 ?_
          refine ax_go 1 (y := (45, [some (.ref o), some (.ref tx), some (.int s0), some (.ref wr), some (.int top), some (.int at1), some (.int z60), (u7.map Value.int)], [.int at1, .ref p22], w1, 0, 0)) rfl trivial ?_
          refine hx_il (l := 46) rfl rfl g26 (by omega) (by omega) (fun z63 h64 => ?_)
          refine hx_k (l := 47) (m := 4) rfl rfl (by decide) (fun z65 h66 => ?_)
          have b69 := ck_i32 z63
          refine hx_shr (m := 4) (l := 48) rfl rfl (hx_eq.mpr (by rw [show (Int32.ofNat 4).toInt = 4 from by decide]; omega)) (by decide) (fun z67 h68 => ?_)
          replace h68 : z67.toInt = _ / 16 := h68
          refine ax_go 2 (y := (52, [some (.ref o), some (.ref tx), some (.int s0), some (.ref wr), some (.int top), some (.int at1), some (.int z60), some (.int z67)], [.int z60], w1, 0, 0)) rfl trivial ?_
          refine hx_if_eq (l := 55) rfl rfl (fun h70 => ?_) (fun h70 => ?_)
          · -- 299
            refine ax_go 1 (y := (300, [some (.ref o), some (.ref tx), some (.int s0), some (.ref wr), some (.int top), some (.int at1), some (.int z60), some (.int z67)], [.ref o], w1, 0, 0)) rfl trivial ?_
            obtain ⟨fs71, g72, -, q73⟩ := hx_obj hw6 hG0 (s := 5) rfl (by decide)
            obtain ⟨x74, e75, a76, b77⟩ := hx_fi (k := 1) (lo := 0) (hi := 1) q73 rfl
            refine hx_gf (l := 303) rfl rfl rfl g72 e75 ?_
            refine hx_if_ne (l := 306) rfl rfl (fun h78 => ?_) (fun h78 => ?_)
            · -- 312
              refine hx_k (l := 313) (m := 0) rfl rfl (by decide) (fun z79 h80 => ?_)
              refine ax_go 1 (y := (322, [some (.ref o), some (.ref tx), some (.int s0), some (.ref wr), some (.int top), some (.int at1), some (.int z60), some (.int z67)], [.int z79], w1, 0, 0)) rfl trivial ?_
              exact ax_ret rfl rfl trivial ⟨some (.int z79), _, rfl, hw6, hf7, hs8, (ck_top_ok (G := G) z79), trivial⟩
            · -- 306
              refine ax_go 1 (y := (308, [some (.ref o), some (.ref tx), some (.int s0), some (.ref wr), some (.int top), some (.int at1), some (.int z60), some (.int z67)], [.int top], w1, 0, 0)) rfl trivial ?_
              refine hx_k (l := 309) (m := 1) rfl rfl (by decide) (fun z81 h82 => ?_)
              refine hx_ic_ge (l := 312) rfl rfl (fun h83 => ?_) (fun h83 => ?_)
              · -- 316
                refine ax_go 1 (y := (317, [some (.ref o), some (.ref tx), some (.int s0), some (.ref wr), some (.int top), some (.int at1), some (.int z60), some (.int z67)], [.ref o], w1, 0, 0)) rfl trivial ?_
                obtain ⟨p84, e85, hG86⟩ := hx_fr (k := 0) (s := 20) q73 rfl
                refine hx_gf (l := 320) rfl rfl rfl g72 e85 ?_
                refine hx_k (l := 321) (m := 0) rfl rfl (by decide) (fun z87 h88 => ?_)
                obtain ⟨f89, g90, r91⟩ := hx_row hw6 hG86 (s := 20) (kd := 0) (n := 64) rfl (by decide)
                refine hx_il (l := 322) rfl rfl g90 (by omega) (by omega) (fun z92 h93 => ?_)
                exact ax_ret rfl rfl trivial ⟨some (.int z92), _, rfl, hw6, hf7, hs8, (ck_top_ok (G := G) z92), trivial⟩
              · -- 312
                refine hx_k (l := 313) (m := 0) rfl rfl (by decide) (fun z94 h95 => ?_)
                refine ax_go 1 (y := (322, [some (.ref o), some (.ref tx), some (.int s0), some (.ref wr), some (.int top), some (.int at1), some (.int z60), some (.int z67)], [.int z94], w1, 0, 0)) rfl trivial ?_
                exact ax_ret rfl rfl trivial ⟨some (.int z94), _, rfl, hw6, hf7, hs8, (ck_top_ok (G := G) z94), trivial⟩
          · -- 55
            refine ax_go 1 (y := (56, [some (.ref o), some (.ref tx), some (.int s0), some (.ref wr), some (.int top), some (.int at1), some (.int z60), some (.int z67)], [.ref o], w1, 0, 0)) rfl trivial ?_
            obtain ⟨fs96, g97, -, q98⟩ := hx_obj hw6 hG0 (s := 5) rfl (by decide)
            obtain ⟨x99, e100, a101, b102⟩ := hx_fi (k := 1) (lo := 0) (hi := 1) q98 rfl
            refine hx_gf (l := 59) rfl rfl rfl g97 e100 ?_
            refine hx_if_eq (l := 62) rfl rfl (fun h103 => ?_) (fun h103 => ?_)
            · -- 65
              refine ax_go 1 (y := (67, [some (.ref o), some (.ref tx), some (.int s0), some (.ref wr), some (.int top), some (.int at1), some (.int z60), some (.int z67)], [.int z60], w1, 0, 0)) rfl trivial ?_
              refine hx_k (l := 68) (m := 1) rfl rfl (by decide) (fun z104 h105 => ?_)
              refine hx_ic_eq (l := 71) rfl rfl (fun h106 => ?_) (fun h106 => ?_)
              · -- 77
                refine ax_go 2 (y := (80, [some (.ref o), some (.ref tx), some (.int s0), some (.ref wr), some (.int top), some (.int at1), some (.int z60), some (.int z67)], [.ref o, .int top], w1, 0, 0)) rfl trivial ?_
                obtain ⟨p107, e108, hG109⟩ := hx_fr (k := 0) (s := 20) q98 rfl
                refine hx_gf (l := 83) rfl rfl rfl g97 e108 ?_
                obtain ⟨f110, g111, r112⟩ := hx_row hw6 hG109 (s := 20) (kd := 0) (n := 64) rfl (by decide)
                refine hx_len (l := 84) rfl rfl g111 rfl (by omega) (fun z113 h114 => ?_)
                refine hx_ic_lt (l := 87) rfl rfl (fun h115 => ?_) (fun h115 => ?_)
                · -- 95
                  refine ax_go 1 (y := (96, [some (.ref o), some (.ref tx), some (.int s0), some (.ref wr), some (.int top), some (.int at1), some (.int z60), some (.int z67)], [.ref o], w1, 0, 0)) rfl trivial ?_
                  refine hx_gf (l := 99) rfl rfl rfl g97 e108 ?_
                  refine ax_go 2 (y := (103, [some (.ref o), some (.ref tx), some (.int s0), some (.ref wr), some (.int top), some (.int at1), some (.int z60), some (.int z67)], [.int z60, .int top, .ref p107], w1, 0, 0)) rfl trivial ?_
                  refine hx_k (l := 104) (m := 1) rfl rfl (by decide) (fun z116 h117 => ?_)
                  refine hx_ic_ne (l := 107) rfl rfl (fun h118 => ?_) (fun h118 => ?_)
                  · -- 112
                    refine ax_go 1 (y := (114, [some (.ref o), some (.ref tx), some (.int s0), some (.ref wr), some (.int top), some (.int at1), some (.int z60), some (.int z67)], [.int z67, .int top, .ref p107], w1, 0, 0)) rfl trivial ?_
                    refine hx_if_lt (l := 117) rfl rfl (fun h119 => ?_) (fun h119 => ?_)
                    · -- 131
                      refine hx_k (l := 132) (m := 0) rfl rfl (by decide) (fun z120 h121 => ?_)
                      refine hx_is (s := 20) (l := 133) rfl rfl rfl hw6 hG109 g111 (by omega) (by omega) hx_sg0 (fun w122 f123 g124 e125 o126 n127 hw128 n129 => ?_)
                      have hs130 := ty_same_tr hs8 (n129 fz (hx_ok hfz (by decide)))
                      have hf131 := hF _ _ (n129 pr_ (by decide)) hf7
                      refine hx_iinc (x := top) (n := 1) (l := 136) rfl rfl rfl (Nat.le_of_ble_eq_true rfl) (by omega) (by omega) (by decide) (fun z132 h133 => ?_)
                      change ab_wp ro (ab_Ev ro ab_codes (d + 1)) 2 false (some .int) ab_k_X2_value (fun o_1 => ∃ v w1, o_1 = (v, w1, 0, 0) ∧ ty_w sp_ G w1 ∧ F w1 ∧ ty_same G fz w w1 ∧ ck_res G (some (0, (-2147483648), 2147483647)) v ∧ ck_wit 0 0 [.ref o, .ref tx, .int s0, .ref wr] v) (136, [some (.ref o), some (.ref tx), some (.int s0), some (.ref wr), some (.int z132), some (.int at1), some (.int z60), some (.int z67)], [], w122, 0, 0)
                      refine ax_go 1 (y := (293, [some (.ref o), some (.ref tx), some (.int s0), some (.ref wr), some (.int z132), some (.int at1), some (.int z60), some (.int z67)], [], w122, 0, 0)) rfl trivial ?_
                      exact ct293 w122 z132 at1 z60 z67 hw128 hf131 hs130 (by omega) (by omega) (by omega) (by omega)
                    · -- 117
                      refine ax_go 2 (y := (120, [some (.ref o), some (.ref tx), some (.int s0), some (.ref wr), some (.int top), some (.int at1), some (.int z60), some (.int z67)], [.ref wr, .int z67, .int top, .ref p107], w1, 0, 0)) rfl trivial ?_
                      obtain ⟨f134, g135, r136⟩ := hx_row hw6 hG3 (s := 21) (kd := 0) (n := 25) rfl (by decide)
                      refine hx_len (l := 121) rfl rfl g135 rfl (by omega) (fun z137 h138 => ?_)
                      refine hx_ic_ge (l := 124) rfl rfl (fun h139 => ?_) (fun h139 => ?_)
                      · -- 131
                        refine hx_k (l := 132) (m := 0) rfl rfl (by decide) (fun z140 h141 => ?_)
                        refine hx_is (s := 20) (l := 133) rfl rfl rfl hw6 hG109 g111 (by omega) (by omega) hx_sg0 (fun w142 f143 g144 e145 o146 n147 hw148 n149 => ?_)
                        have hs150 := ty_same_tr hs8 (n149 fz (hx_ok hfz (by decide)))
                        have hf151 := hF _ _ (n149 pr_ (by decide)) hf7
                        refine hx_iinc (x := top) (n := 1) (l := 136) rfl rfl rfl (Nat.le_of_ble_eq_true rfl) (by omega) (by omega) (by decide) (fun z152 h153 => ?_)
                        change ab_wp ro (ab_Ev ro ab_codes (d + 1)) 2 false (some .int) ab_k_X2_value (fun o_1 => ∃ v w1, o_1 = (v, w1, 0, 0) ∧ ty_w sp_ G w1 ∧ F w1 ∧ ty_same G fz w w1 ∧ ck_res G (some (0, (-2147483648), 2147483647)) v ∧ ck_wit 0 0 [.ref o, .ref tx, .int s0, .ref wr] v) (136, [some (.ref o), some (.ref tx), some (.int s0), some (.ref wr), some (.int z152), some (.int at1), some (.int z60), some (.int z67)], [], w142, 0, 0)
                        refine ax_go 1 (y := (293, [some (.ref o), some (.ref tx), some (.int s0), some (.ref wr), some (.int z152), some (.int at1), some (.int z60), some (.int z67)], [], w142, 0, 0)) rfl trivial ?_
                        exact ct293 w142 z152 at1 z60 z67 hw148 hf151 hs150 (by omega) (by omega) (by omega) (by omega)
                      · -- 124
                        refine ax_go 2 (y := (127, [some (.ref o), some (.ref tx), some (.int s0), some (.ref wr), some (.int top), some (.int at1), some (.int z60), some (.int z67)], [.int z67, .ref wr, .int top, .ref p107], w1, 0, 0)) rfl trivial ?_
                        refine hx_il (l := 128) rfl rfl g135 (by omega) (by omega) (fun z154 h155 => ?_)
                        refine ax_go 1 (y := (132, [some (.ref o), some (.ref tx), some (.int s0), some (.ref wr), some (.int top), some (.int at1), some (.int z60), some (.int z67)], [.int z154, .int top, .ref p107], w1, 0, 0)) rfl trivial ?_
                        refine hx_is (s := 20) (l := 133) rfl rfl rfl hw6 hG109 g111 (by omega) (by omega) hx_sg0 (fun w156 f157 g158 e159 o160 n161 hw162 n163 => ?_)
                        have hs164 := ty_same_tr hs8 (n163 fz (hx_ok hfz (by decide)))
                        have hf165 := hF _ _ (n163 pr_ (by decide)) hf7
                        refine hx_iinc (x := top) (n := 1) (l := 136) rfl rfl rfl (Nat.le_of_ble_eq_true rfl) (by omega) (by omega) (by decide) (fun z166 h167 => ?_)
                        change ab_wp ro (ab_Ev ro ab_codes (d + 1)) 2 false (some .int) ab_k_X2_value (fun o_1 => ∃ v w1, o_1 = (v, w1, 0, 0) ∧ ty_w sp_ G w1 ∧ F w1 ∧ ty_same G fz w w1 ∧ ck_res G (some (0, (-2147483648), 2147483647)) v ∧ ck_wit 0 0 [.ref o, .ref tx, .int s0, .ref wr] v) (136, [some (.ref o), some (.ref tx), some (.int s0), some (.ref wr), some (.int z166), some (.int at1), some (.int z60), some (.int z67)], [], w156, 0, 0)
                        refine ax_go 1 (y := (293, [some (.ref o), some (.ref tx), some (.int s0), some (.ref wr), some (.int z166), some (.int at1), some (.int z60), some (.int z67)], [], w156, 0, 0)) rfl trivial ?_
                        exact ct293 w156 z166 at1 z60 z67 hw162 hf165 hs164 (by omega) (by omega) (by omega) (by omega)
                  · -- 107
                    refine ax_go 2 (y := (132, [some (.ref o), some (.ref tx), some (.int s0), some (.ref wr), some (.int top), some (.int at1), some (.int z60), some (.int z67)], [.int z67, .int top, .ref p107], w1, 0, 0)) rfl trivial ?_
                    refine hx_is (s := 20) (l := 133) rfl rfl rfl hw6 hG109 g111 (by omega) (by omega) hx_sg0 (fun w168 f169 g170 e171 o172 n173 hw174 n175 => ?_)
                    have hs176 := ty_same_tr hs8 (n175 fz (hx_ok hfz (by decide)))
                    have hf177 := hF _ _ (n175 pr_ (by decide)) hf7
                    refine hx_iinc (x := top) (n := 1) (l := 136) rfl rfl rfl (Nat.le_of_ble_eq_true rfl) (by omega) (by omega) (by decide) (fun z178 h179 => ?_)
                    change ab_wp ro (ab_Ev ro ab_codes (d + 1)) 2 false (some .int) ab_k_X2_value (fun o_1 => ∃ v w1, o_1 = (v, w1, 0, 0) ∧ ty_w sp_ G w1 ∧ F w1 ∧ ty_same G fz w w1 ∧ ck_res G (some (0, (-2147483648), 2147483647)) v ∧ ck_wit 0 0 [.ref o, .ref tx, .int s0, .ref wr] v) (136, [some (.ref o), some (.ref tx), some (.int s0), some (.ref wr), some (.int z178), some (.int at1), some (.int z60), some (.int z67)], [], w168, 0, 0)
                    refine ax_go 1 (y := (293, [some (.ref o), some (.ref tx), some (.int s0), some (.ref wr), some (.int z178), some (.int at1), some (.int z60), some (.int z67)], [], w168, 0, 0)) rfl trivial ?_
                    exact ct293 w168 z178 at1 z60 z67 hw174 hf177 hs176 (by omega) (by omega) (by omega) (by omega)
                · -- 87
                  refine ax_go 1 (y := (88, [some (.ref o), some (.ref tx), some (.int s0), some (.ref wr), some (.int top), some (.int at1), some (.int z60), some (.int z67)], [.ref o], w1, 0, 0)) rfl trivial ?_
                  refine hx_k (l := 89) (m := 1) rfl rfl (by decide) (fun z180 h181 => ?_)
                  refine hx_pf (q := (0, 0, 0, 0, 0, 1)) (s := 5) (l := 92) (v := .int z180) rfl rfl rfl (by decide) rfl rfl rfl hw6 hG0 g97 ⟨hx_01 (by omega) (by omega), trivial⟩ (hx_ti (G := G) (lo := 0) (hi := 1) (by omega) (by omega)) (fun w182 fs183 g184 e185 o186 n187 hw188 n189 => ?_)
                  have hs190 := ty_same_tr hs8 (n189 fz (hx_ok hfz (by decide)))
                  have hf191 := hF _ _ (n189 pr_ (by decide)) hf7
                  refine ax_go 2 (y := (300, [some (.ref o), some (.ref tx), some (.int s0), some (.ref wr), some (.int top), some (.int at1), some (.int z60), some (.int z67)], [.ref o], w182, 0, 0)) rfl trivial ?_
                  refine hx_gf (l := 303) rfl rfl rfl g184 e185 ?_
                  refine hx_if_ne (l := 306) rfl rfl (fun h192 => ?_) (fun h192 => by omega)
                  refine hx_k (l := 313) (m := 0) rfl rfl (by decide) (fun z193 h194 => ?_)
                  refine ax_go 1 (y := (322, [some (.ref o), some (.ref tx), some (.int s0), some (.ref wr), some (.int top), some (.int at1), some (.int z60), some (.int z67)], [.int z193], w182, 0, 0)) rfl trivial ?_
                  exact ax_ret rfl rfl trivial ⟨some (.int z193), _, rfl, hw188, hf191, hs190, (ck_top_ok (G := G) z193), trivial⟩
              · -- 71
                refine ax_go 1 (y := (73, [some (.ref o), some (.ref tx), some (.int s0), some (.ref wr), some (.int top), some (.int at1), some (.int z60), some (.int z67)], [.int z60], w1, 0, 0)) rfl trivial ?_
                refine hx_k (l := 74) (m := 2) rfl rfl (by decide) (fun z195 h196 => ?_)
                refine hx_ic_ne (l := 77) rfl rfl (fun h197 => ?_) (fun h197 => ?_)
                · -- 139
                  refine ax_go 1 (y := (141, [some (.ref o), some (.ref tx), some (.int s0), some (.ref wr), some (.int top), some (.int at1), some (.int z60), some (.int z67)], [.int top], w1, 0, 0)) rfl trivial ?_
                  refine hx_k (l := 142) (m := 1) rfl rfl (by decide) (fun z198 h199 => ?_)
                  refine hx_ic_lt (l := 145) rfl rfl (fun h200 => ?_) (fun h200 => ?_)
                  · -- 158
                    refine ax_go 1 (y := (159, [some (.ref o), some (.ref tx), some (.int s0), some (.ref wr), some (.int top), some (.int at1), some (.int z60), some (.int z67)], [.ref o], w1, 0, 0)) rfl trivial ?_
                    refine hx_k (l := 160) (m := 1) rfl rfl (by decide) (fun z201 h202 => ?_)
                    refine hx_pf (q := (0, 0, 0, 0, 0, 1)) (s := 5) (l := 163) (v := .int z201) rfl rfl rfl (by decide) rfl rfl rfl hw6 hG0 g97 ⟨hx_01 (by omega) (by omega), trivial⟩ (hx_ti (G := G) (lo := 0) (hi := 1) (by omega) (by omega)) (fun w203 fs204 g205 e206 o207 n208 hw209 n210 => ?_)
                    have hs211 := ty_same_tr hs8 (n210 fz (hx_ok hfz (by decide)))
                    have hf212 := hF _ _ (n210 pr_ (by decide)) hf7
                    refine ax_go 1 (y := (293, [some (.ref o), some (.ref tx), some (.int s0), some (.ref wr), some (.int top), some (.int at1), some (.int z60), some (.int z67)], [], w203, 0, 0)) rfl trivial ?_
                    exact ct293 w203 top at1 z60 z67 hw209 hf212 hs211 (by omega) (by omega) (by omega) (by omega)
                  · -- 145
                    refine ax_go 1 (y := (147, [some (.ref o), some (.ref tx), some (.int s0), some (.ref wr), some (.int top), some (.int at1), some (.int z60), some (.int z67)], [.int z60], w1, 0, 0)) rfl trivial ?_
                    refine hx_k (l := 149) (m := 11) rfl rfl (by decide) (fun z213 h214 => ?_)
                    refine hx_ic_ge (l := 152) rfl rfl (fun h215 => ?_) (fun h215 => ?_)
                    · -- 166
                      refine ax_go 1 (y := (168, [some (.ref o), some (.ref tx), some (.int s0), some (.ref wr), some (.int top), some (.int at1), some (.int z60), some (.int z67)], [.int z60], w1, 0, 0)) rfl trivial ?_
                      refine hx_k (l := 170) (m := 11) rfl rfl (by decide) (fun z216 h217 => ?_)
                      refine hx_ic_ne (l := 173) rfl rfl (fun h218 => ?_) (fun h218 => ?_)
                      · -- 196
                        refine ax_go 1 (y := (198, [some (.ref o), some (.ref tx), some (.int s0), some (.ref wr), some (.int top), some (.int at1), some (.int z60), some (.int z67)], [.int z60], w1, 0, 0)) rfl trivial ?_
                        refine hx_k (l := 200) (m := 11) rfl rfl (by decide) (fun z219 h220 => ?_)
                        refine hx_ic_ge (l := 203) rfl rfl (fun h221 => ?_) (fun h221 => ?_)
                        · -- 244
                          refine ax_go 1 (y := (245, [some (.ref o), some (.ref tx), some (.int s0), some (.ref wr), some (.int top), some (.int at1), some (.int z60), some (.int z67)], [.ref o], w1, 0, 0)) rfl trivial ?_
                          obtain ⟨p222, e223, hG224⟩ := hx_fr (k := 0) (s := 20) q98 rfl
                          refine hx_gf (l := 248) rfl rfl rfl g97 e223 ?_
                          refine ax_go 1 (y := (250, [some (.ref o), some (.ref tx), some (.int s0), some (.ref wr), some (.int top), some (.int at1), some (.int z60), some (.int z67)], [.int top, .ref p222], w1, 0, 0)) rfl trivial ?_
                          refine hx_k (l := 251) (m := 1) rfl rfl (by decide) (fun z225 h226 => ?_)
                          refine hx_sub (l := 252) rfl rfl (fun z227 h228 => ?_)
                          replace h228 := h228 (by omega) (by omega)
                          obtain ⟨f229, g230, r231⟩ := hx_row hw6 hG224 (s := 20) (kd := 0) (n := 64) rfl (by decide)
                          refine hx_il (l := 253) rfl rfl g230 (by omega) (by omega) (fun z232 h233 => ?_)
                          refine hx_if_eq (l := 256) rfl rfl (fun h234 => ?_) (fun h234 => ?_)
                          · -- 260
                            refine hx_k (l := 261) (m := 0) rfl rfl (by decide) (fun z235 h236 => ?_)
                            refine ax_go 1 (y := (263, [some (.ref o), some (.ref tx), some (.int s0), some (.ref wr), some (.int top), some (.int at1), some (.int z60), some (.int z67)], [.int z60, .int z235], w1, 0, 0)) rfl trivial ?_
                            refine hx_k (l := 265) (m := 12) rfl rfl (by decide) (fun z237 h238 => ?_)
                            refine hx_ic_ne (l := 268) rfl rfl (fun h239 => ?_) (fun h239 => ?_)
                            · -- 272
                              refine hx_k (l := 273) (m := 0) rfl rfl (by decide) (fun z240 h241 => ?_)
                              refine hx_ic_ne (l := 276) rfl rfl (fun h242 => by omega) (fun h242 => ?_)
                              refine ax_go 2 (y := (280, [some (.ref o), some (.ref tx), some (.int s0), some (.ref wr), some (.int top), some (.int at1), some (.int z60), some (.int z67)], [.int z67, .int at1], w1, 0, 0)) rfl trivial ?_
                              refine hx_k (l := 281) (m := 1) rfl rfl (by decide) (fun z243 h244 => ?_)
                              refine hx_sub (l := 282) rfl rfl (fun z245 h246 => ?_)
                              replace h246 := h246 (by omega) (by omega)
                              refine hx_max (l := 285) rfl rfl (by decide) rfl (fun z247 h248 => ?_)
                              refine ax_go 2 (y := (293, [some (.ref o), some (.ref tx), some (.int s0), some (.ref wr), some (.int top), some (.int z247), some (.int z60), some (.int z67)], [], w1, 0, 0)) rfl trivial ?_
                              exact ct293 w1 top z247 z60 z67 hw6 hf7 hs8 (by omega) (by omega) (by omega) (by omega)
                            · -- 268
                              refine hx_k (l := 269) (m := 1) rfl rfl (by decide) (fun z249 h250 => ?_)
                              refine ax_go 1 (y := (273, [some (.ref o), some (.ref tx), some (.int s0), some (.ref wr), some (.int top), some (.int at1), some (.int z60), some (.int z67)], [.int z249, .int z235], w1, 0, 0)) rfl trivial ?_
                              refine hx_ic_ne (l := 276) rfl rfl (fun h251 => ?_) (fun h251 => by omega)
                              refine hx_iinc (x := top) (n := (-1)) (l := 293) rfl rfl rfl (Nat.le_of_ble_eq_true rfl) (by omega) (by omega) (by decide) (fun z252 h253 => ?_)
                              change ab_wp ro (ab_Ev ro ab_codes (d + 1)) 2 false (some .int) ab_k_X2_value (fun o_1 => ∃ v w1, o_1 = (v, w1, 0, 0) ∧ ty_w sp_ G w1 ∧ F w1 ∧ ty_same G fz w w1 ∧ ck_res G (some (0, (-2147483648), 2147483647)) v ∧ ck_wit 0 0 [.ref o, .ref tx, .int s0, .ref wr] v) (293, [some (.ref o), some (.ref tx), some (.int s0), some (.ref wr), some (.int z252), some (.int at1), some (.int z60), some (.int z67)], [], w1, 0, 0)
                              exact ct293 w1 z252 at1 z60 z67 hw6 hf7 hs8 (by omega) (by omega) (by omega) (by omega)
                          · -- 256
                            refine hx_k (l := 257) (m := 1) rfl rfl (by decide) (fun z254 h255 => ?_)
                            refine ax_go 2 (y := (263, [some (.ref o), some (.ref tx), some (.int s0), some (.ref wr), some (.int top), some (.int at1), some (.int z60), some (.int z67)], [.int z60, .int z254], w1, 0, 0)) rfl trivial ?_
                            refine hx_k (l := 265) (m := 12) rfl rfl (by decide) (fun z256 h257 => ?_)
                            refine hx_ic_ne (l := 268) rfl rfl (fun h258 => ?_) (fun h258 => ?_)
                            · -- 272
                              refine hx_k (l := 273) (m := 0) rfl rfl (by decide) (fun z259 h260 => ?_)
                              refine hx_ic_ne (l := 276) rfl rfl (fun h261 => ?_) (fun h261 => by omega)
                              refine hx_iinc (x := top) (n := (-1)) (l := 293) rfl rfl rfl (Nat.le_of_ble_eq_true rfl) (by omega) (by omega) (by decide) (fun z262 h263 => ?_)
                              change ab_wp ro (ab_Ev ro ab_codes (d + 1)) 2 false (some .int) ab_k_X2_value (fun o_1 => ∃ v w1, o_1 = (v, w1, 0, 0) ∧ ty_w sp_ G w1 ∧ F w1 ∧ ty_same G fz w w1 ∧ ck_res G (some (0, (-2147483648), 2147483647)) v ∧ ck_wit 0 0 [.ref o, .ref tx, .int s0, .ref wr] v) (293, [some (.ref o), some (.ref tx), some (.int s0), some (.ref wr), some (.int z262), some (.int at1), some (.int z60), some (.int z67)], [], w1, 0, 0)
                              exact ct293 w1 z262 at1 z60 z67 hw6 hf7 hs8 (by omega) (by omega) (by omega) (by omega)
                            · -- 268
                              refine hx_k (l := 269) (m := 1) rfl rfl (by decide) (fun z264 h265 => ?_)
                              refine ax_go 1 (y := (273, [some (.ref o), some (.ref tx), some (.int s0), some (.ref wr), some (.int top), some (.int at1), some (.int z60), some (.int z67)], [.int z264, .int z254], w1, 0, 0)) rfl trivial ?_
                              refine hx_ic_ne (l := 276) rfl rfl (fun h266 => by omega) (fun h266 => ?_)
                              refine ax_go 2 (y := (280, [some (.ref o), some (.ref tx), some (.int s0), some (.ref wr), some (.int top), some (.int at1), some (.int z60), some (.int z67)], [.int z67, .int at1], w1, 0, 0)) rfl trivial ?_
                              refine hx_k (l := 281) (m := 1) rfl rfl (by decide) (fun z267 h268 => ?_)
                              refine hx_sub (l := 282) rfl rfl (fun z269 h270 => ?_)
                              replace h270 := h270 (by omega) (by omega)
                              refine hx_max (l := 285) rfl rfl (by decide) rfl (fun z271 h272 => ?_)
                              refine ax_go 2 (y := (293, [some (.ref o), some (.ref tx), some (.int s0), some (.ref wr), some (.int top), some (.int z271), some (.int z60), some (.int z67)], [], w1, 0, 0)) rfl trivial ?_
                              exact ct293 w1 top z271 z60 z67 hw6 hf7 hs8 (by omega) (by omega) (by omega) (by omega)
                        · -- 203
                          refine ax_go 1 (y := (204, [some (.ref o), some (.ref tx), some (.int s0), some (.ref wr), some (.int top), some (.int at1), some (.int z60), some (.int z67)], [.ref o], w1, 0, 0)) rfl trivial ?_
                          obtain ⟨p273, e274, hG275⟩ := hx_fr (k := 0) (s := 20) q98 rfl
                          refine hx_gf (l := 207) rfl rfl rfl g97 e274 ?_
                          refine ax_go 1 (y := (209, [some (.ref o), some (.ref tx), some (.int s0), some (.ref wr), some (.int top), some (.int at1), some (.int z60), some (.int z67)], [.int top, .ref p273], w1, 0, 0)) rfl trivial ?_
                          refine hx_k (l := 210) (m := 2) rfl rfl (by decide) (fun z276 h277 => ?_)
                          refine hx_sub (l := 211) rfl rfl (fun z278 h279 => ?_)
                          replace h279 := h279 (by omega) (by omega)
                          refine ax_go 3 (y := (215, [some (.ref o), some (.ref tx), some (.int s0), some (.ref wr), some (.int top), some (.int at1), some (.int z60), some (.int z67)], [.ref o, .int z60, .ref o, .int z278, .ref p273], w1, 0, 0)) rfl trivial ?_
                          refine hx_gf (l := 218) rfl rfl rfl g97 e274 ?_
                          refine ax_go 1 (y := (220, [some (.ref o), some (.ref tx), some (.int s0), some (.ref wr), some (.int top), some (.int at1), some (.int z60), some (.int z67)], [.int top, .ref p273, .int z60, .ref o, .int z278, .ref p273], w1, 0, 0)) rfl trivial ?_
                          refine hx_k (l := 221) (m := 2) rfl rfl (by decide) (fun z280 h281 => ?_)
                          refine hx_sub (l := 222) rfl rfl (fun z282 h283 => ?_)
                          replace h283 := h283 (by omega) (by omega)
                          obtain ⟨f284, g285, r286⟩ := hx_row hw6 hG275 (s := 20) (kd := 0) (n := 64) rfl (by decide)
                          refine hx_il (l := 223) rfl rfl g285 (by omega) (by omega) (fun z287 h288 => ?_)
                          refine hx_anyl (l := 224) rfl rfl (fun z289 => ?_)
                          refine ax_go 1 (y := (225, [some (.ref o), some (.ref tx), some (.int s0), some (.ref wr), some (.int top), some (.int at1), some (.int z60), some (.int z67)], [.ref o, .long z289, .int z60, .ref o, .int z278, .ref p273], w1, 0, 0)) rfl trivial ?_
                          refine hx_gf (l := 228) rfl rfl rfl g97 e274 ?_
                          refine ax_go 1 (y := (230, [some (.ref o), some (.ref tx), some (.int s0), some (.ref wr), some (.int top), some (.int at1), some (.int z60), some (.int z67)], [.int top, .ref p273, .long z289, .int z60, .ref o, .int z278, .ref p273], w1, 0, 0)) rfl trivial ?_
                          refine hx_k (l := 231) (m := 1) rfl rfl (by decide) (fun z290 h291 => ?_)
                          refine hx_sub (l := 232) rfl rfl (fun z292 h293 => ?_)
                          replace h293 := h293 (by omega) (by omega)
                          refine hx_il (l := 233) rfl rfl g285 (by omega) (by omega) (fun z294 h295 => ?_)
                          refine hx_anyl (l := 234) rfl rfl (fun z296 => ?_)
                          refine hx_ci (l := 237) (as := [.ref o, .int z60, .long z289, .long z296]) rfl rfl (hx_iv (j := 19) (n := 3) (o := o) (r := [.int z278, .ref p273]) rfl rfl g97 rfl) (h_X2_combined (fz := fz) hF (fun q hq => (by decide +kernel : ∀ q ∈ fb_X2_value1, q ∈ fb_X2_combined) q (hfz q hq)) (d + 0)) hw6 hf7 ⟨(hx_tr (G := G) (s := 5) (b := 0) hG0 (by decide)), (ck_top_ok (G := G) z60), (ck_ltop_ok (G := G) z289), (ck_ltop_ok (G := G) z296), trivial⟩ (fun w297 z302 hw298 hf299 m300 a303 b304 u305 => ?_)
                          have hs301 := ty_same_tr hs8 m300
                          obtain ⟨f306, g307, r308⟩ := hx_row hw298 hG275 (s := 20) (kd := 0) (n := 64) rfl (by decide)
                          refine hx_is (s := 20) (l := 238) rfl rfl rfl hw298 hG275 g307 (by omega) (by omega) hx_sg0 (fun w309 f310 g311 e312 o313 n314 hw315 n316 => ?_)
                          have hs317 := ty_same_tr hs301 (n316 fz (hx_ok hfz (by decide)))
                          have hf318 := hF _ _ (n316 pr_ (by decide)) hf299
                          refine hx_iinc (x := top) (n := (-1)) (l := 241) rfl rfl rfl (Nat.le_of_ble_eq_true rfl) (by omega) (by omega) (by decide) (fun z319 h320 => ?_)
                          change ab_wp ro (ab_Ev ro ab_codes (d + 1)) 2 false (some .int) ab_k_X2_value (fun o_1 => ∃ v w1, o_1 = (v, w1, 0, 0) ∧ ty_w sp_ G w1 ∧ F w1 ∧ ty_same G fz w w1 ∧ ck_res G (some (0, (-2147483648), 2147483647)) v ∧ ck_wit 0 0 [.ref o, .ref tx, .int s0, .ref wr] v) (241, [some (.ref o), some (.ref tx), some (.int s0), some (.ref wr), some (.int z319), some (.int at1), some (.int z60), some (.int z67)], [], w309, 0, 0)
                          refine ax_go 1 (y := (293, [some (.ref o), some (.ref tx), some (.int s0), some (.ref wr), some (.int z319), some (.int at1), some (.int z60), some (.int z67)], [], w309, 0, 0)) rfl trivial ?_
                          exact ct293 w309 z319 at1 z60 z67 hw315 hf318 hs317 (by omega) (by omega) (by omega) (by omega)
                      · -- 173
                        refine ax_go 1 (y := (174, [some (.ref o), some (.ref tx), some (.int s0), some (.ref wr), some (.int top), some (.int at1), some (.int z60), some (.int z67)], [.ref o], w1, 0, 0)) rfl trivial ?_
                        obtain ⟨p321, e322, hG323⟩ := hx_fr (k := 0) (s := 20) q98 rfl
                        refine hx_gf (l := 177) rfl rfl rfl g97 e322 ?_
                        refine ax_go 1 (y := (179, [some (.ref o), some (.ref tx), some (.int s0), some (.ref wr), some (.int top), some (.int at1), some (.int z60), some (.int z67)], [.int top, .ref p321], w1, 0, 0)) rfl trivial ?_
                        refine hx_k (l := 180) (m := 1) rfl rfl (by decide) (fun z324 h325 => ?_)
                        refine hx_sub (l := 181) rfl rfl (fun z326 h327 => ?_)
                        replace h327 := h327 (by omega) (by omega)
                        refine hx_k (l := 182) (m := 1) rfl rfl (by decide) (fun z328 h329 => ?_)
                        refine ax_go 1 (y := (183, [some (.ref o), some (.ref tx), some (.int s0), some (.ref wr), some (.int top), some (.int at1), some (.int z60), some (.int z67)], [.ref o, .int z328, .int z326, .ref p321], w1, 0, 0)) rfl trivial ?_
                        refine hx_gf (l := 186) rfl rfl rfl g97 e322 ?_
                        refine ax_go 1 (y := (188, [some (.ref o), some (.ref tx), some (.int s0), some (.ref wr), some (.int top), some (.int at1), some (.int z60), some (.int z67)], [.int top, .ref p321, .int z328, .int z326, .ref p321], w1, 0, 0)) rfl trivial ?_
                        refine hx_k (l := 189) (m := 1) rfl rfl (by decide) (fun z330 h331 => ?_)
                        refine hx_sub (l := 190) rfl rfl (fun z332 h333 => ?_)
                        replace h333 := h333 (by omega) (by omega)
                        obtain ⟨f334, g335, r336⟩ := hx_row hw6 hG323 (s := 20) (kd := 0) (n := 64) rfl (by decide)
                        refine hx_il (l := 191) rfl rfl g335 (by omega) (by omega) (fun z337 h338 => ?_)
                        refine hx_sub (l := 192) rfl rfl (fun z339 h340 => ?_)
                        refine hx_is (s := 20) (l := 193) rfl rfl rfl hw6 hG323 g335 (by omega) (by omega) hx_sg0 (fun w341 f342 g343 e344 o345 n346 hw347 n348 => ?_)
                        have hs349 := ty_same_tr hs8 (n348 fz (hx_ok hfz (by decide)))
                        have hf350 := hF _ _ (n348 pr_ (by decide)) hf7
                        refine ax_go 1 (y := (293, [some (.ref o), some (.ref tx), some (.int s0), some (.ref wr), some (.int top), some (.int at1), some (.int z60), some (.int z67)], [], w341, 0, 0)) rfl trivial ?_
                        exact ct293 w341 top at1 z60 z67 hw347 hf350 hs349 (by omega) (by omega) (by omega) (by omega)
                    · -- 152
                      refine ax_go 1 (y := (154, [some (.ref o), some (.ref tx), some (.int s0), some (.ref wr), some (.int top), some (.int at1), some (.int z60), some (.int z67)], [.int top], w1, 0, 0)) rfl trivial ?_
                      refine hx_k (l := 155) (m := 2) rfl rfl (by decide) (fun z351 h352 => ?_)
                      refine hx_ic_ge (l := 158) rfl rfl (fun h353 => ?_) (fun h353 => ?_)
                      · -- 166
                        refine ax_go 1 (y := (168, [some (.ref o), some (.ref tx), some (.int s0), some (.ref wr), some (.int top), some (.int at1), some (.int z60), some (.int z67)], [.int z60], w1, 0, 0)) rfl trivial ?_
                        refine hx_k (l := 170) (m := 11) rfl rfl (by decide) (fun z354 h355 => ?_)
                        refine hx_ic_ne (l := 173) rfl rfl (fun h356 => ?_) (fun h356 => ?_)
                        · -- 196
                          refine ax_go 1 (y := (198, [some (.ref o), some (.ref tx), some (.int s0), some (.ref wr), some (.int top), some (.int at1), some (.int z60), some (.int z67)], [.int z60], w1, 0, 0)) rfl trivial ?_
                          refine hx_k (l := 200) (m := 11) rfl rfl (by decide) (fun z357 h358 => ?_)
                          refine hx_ic_ge (l := 203) rfl rfl (fun h359 => ?_) (fun h359 => ?_)
                          · -- 244
                            refine ax_go 1 (y := (245, [some (.ref o), some (.ref tx), some (.int s0), some (.ref wr), some (.int top), some (.int at1), some (.int z60), some (.int z67)], [.ref o], w1, 0, 0)) rfl trivial ?_
                            obtain ⟨p360, e361, hG362⟩ := hx_fr (k := 0) (s := 20) q98 rfl
                            refine hx_gf (l := 248) rfl rfl rfl g97 e361 ?_
                            refine ax_go 1 (y := (250, [some (.ref o), some (.ref tx), some (.int s0), some (.ref wr), some (.int top), some (.int at1), some (.int z60), some (.int z67)], [.int top, .ref p360], w1, 0, 0)) rfl trivial ?_
                            refine hx_k (l := 251) (m := 1) rfl rfl (by decide) (fun z363 h364 => ?_)
                            refine hx_sub (l := 252) rfl rfl (fun z365 h366 => ?_)
                            replace h366 := h366 (by omega) (by omega)
                            obtain ⟨f367, g368, r369⟩ := hx_row hw6 hG362 (s := 20) (kd := 0) (n := 64) rfl (by decide)
                            refine hx_il (l := 253) rfl rfl g368 (by omega) (by omega) (fun z370 h371 => ?_)
                            refine hx_if_eq (l := 256) rfl rfl (fun h372 => ?_) (fun h372 => ?_)
                            · -- 260
                              refine hx_k (l := 261) (m := 0) rfl rfl (by decide) (fun z373 h374 => ?_)
                              refine ax_go 1 (y := (263, [some (.ref o), some (.ref tx), some (.int s0), some (.ref wr), some (.int top), some (.int at1), some (.int z60), some (.int z67)], [.int z60, .int z373], w1, 0, 0)) rfl trivial ?_
                              refine hx_k (l := 265) (m := 12) rfl rfl (by decide) (fun z375 h376 => ?_)
                              refine hx_ic_ne (l := 268) rfl rfl (fun h377 => ?_) (fun h377 => ?_)
                              · -- 272
                                refine hx_k (l := 273) (m := 0) rfl rfl (by decide) (fun z378 h379 => ?_)
                                refine hx_ic_ne (l := 276) rfl rfl (fun h380 => by omega) (fun h380 => ?_)
                                refine ax_go 2 (y := (280, [some (.ref o), some (.ref tx), some (.int s0), some (.ref wr), some (.int top), some (.int at1), some (.int z60), some (.int z67)], [.int z67, .int at1], w1, 0, 0)) rfl trivial ?_
                                refine hx_k (l := 281) (m := 1) rfl rfl (by decide) (fun z381 h382 => ?_)
                                refine hx_sub (l := 282) rfl rfl (fun z383 h384 => ?_)
                                replace h384 := h384 (by omega) (by omega)
                                refine hx_max (l := 285) rfl rfl (by decide) rfl (fun z385 h386 => ?_)
                                refine ax_go 2 (y := (293, [some (.ref o), some (.ref tx), some (.int s0), some (.ref wr), some (.int top), some (.int z385), some (.int z60), some (.int z67)], [], w1, 0, 0)) rfl trivial ?_
                                exact ct293 w1 top z385 z60 z67 hw6 hf7 hs8 (by omega) (by omega) (by omega) (by omega)
                              · -- 268
                                refine hx_k (l := 269) (m := 1) rfl rfl (by decide) (fun z387 h388 => ?_)
                                refine ax_go 1 (y := (273, [some (.ref o), some (.ref tx), some (.int s0), some (.ref wr), some (.int top), some (.int at1), some (.int z60), some (.int z67)], [.int z387, .int z373], w1, 0, 0)) rfl trivial ?_
                                refine hx_ic_ne (l := 276) rfl rfl (fun h389 => ?_) (fun h389 => by omega)
                                refine hx_iinc (x := top) (n := (-1)) (l := 293) rfl rfl rfl (Nat.le_of_ble_eq_true rfl) (by omega) (by omega) (by decide) (fun z390 h391 => ?_)
                                change ab_wp ro (ab_Ev ro ab_codes (d + 1)) 2 false (some .int) ab_k_X2_value (fun o_1 => ∃ v w1, o_1 = (v, w1, 0, 0) ∧ ty_w sp_ G w1 ∧ F w1 ∧ ty_same G fz w w1 ∧ ck_res G (some (0, (-2147483648), 2147483647)) v ∧ ck_wit 0 0 [.ref o, .ref tx, .int s0, .ref wr] v) (293, [some (.ref o), some (.ref tx), some (.int s0), some (.ref wr), some (.int z390), some (.int at1), some (.int z60), some (.int z67)], [], w1, 0, 0)
                                exact ct293 w1 z390 at1 z60 z67 hw6 hf7 hs8 (by omega) (by omega) (by omega) (by omega)
                            · -- 256
                              refine hx_k (l := 257) (m := 1) rfl rfl (by decide) (fun z392 h393 => ?_)
                              refine ax_go 2 (y := (263, [some (.ref o), some (.ref tx), some (.int s0), some (.ref wr), some (.int top), some (.int at1), some (.int z60), some (.int z67)], [.int z60, .int z392], w1, 0, 0)) rfl trivial ?_
                              refine hx_k (l := 265) (m := 12) rfl rfl (by decide) (fun z394 h395 => ?_)
                              refine hx_ic_ne (l := 268) rfl rfl (fun h396 => ?_) (fun h396 => ?_)
                              · -- 272
                                refine hx_k (l := 273) (m := 0) rfl rfl (by decide) (fun z397 h398 => ?_)
                                refine hx_ic_ne (l := 276) rfl rfl (fun h399 => ?_) (fun h399 => by omega)
                                refine hx_iinc (x := top) (n := (-1)) (l := 293) rfl rfl rfl (Nat.le_of_ble_eq_true rfl) (by omega) (by omega) (by decide) (fun z400 h401 => ?_)
                                change ab_wp ro (ab_Ev ro ab_codes (d + 1)) 2 false (some .int) ab_k_X2_value (fun o_1 => ∃ v w1, o_1 = (v, w1, 0, 0) ∧ ty_w sp_ G w1 ∧ F w1 ∧ ty_same G fz w w1 ∧ ck_res G (some (0, (-2147483648), 2147483647)) v ∧ ck_wit 0 0 [.ref o, .ref tx, .int s0, .ref wr] v) (293, [some (.ref o), some (.ref tx), some (.int s0), some (.ref wr), some (.int z400), some (.int at1), some (.int z60), some (.int z67)], [], w1, 0, 0)
                                exact ct293 w1 z400 at1 z60 z67 hw6 hf7 hs8 (by omega) (by omega) (by omega) (by omega)
                              · -- 268
                                refine hx_k (l := 269) (m := 1) rfl rfl (by decide) (fun z402 h403 => ?_)
                                refine ax_go 1 (y := (273, [some (.ref o), some (.ref tx), some (.int s0), some (.ref wr), some (.int top), some (.int at1), some (.int z60), some (.int z67)], [.int z402, .int z392], w1, 0, 0)) rfl trivial ?_
                                refine hx_ic_ne (l := 276) rfl rfl (fun h404 => by omega) (fun h404 => ?_)
                                refine ax_go 2 (y := (280, [some (.ref o), some (.ref tx), some (.int s0), some (.ref wr), some (.int top), some (.int at1), some (.int z60), some (.int z67)], [.int z67, .int at1], w1, 0, 0)) rfl trivial ?_
                                refine hx_k (l := 281) (m := 1) rfl rfl (by decide) (fun z405 h406 => ?_)
                                refine hx_sub (l := 282) rfl rfl (fun z407 h408 => ?_)
                                replace h408 := h408 (by omega) (by omega)
                                refine hx_max (l := 285) rfl rfl (by decide) rfl (fun z409 h410 => ?_)
                                refine ax_go 2 (y := (293, [some (.ref o), some (.ref tx), some (.int s0), some (.ref wr), some (.int top), some (.int z409), some (.int z60), some (.int z67)], [], w1, 0, 0)) rfl trivial ?_
                                exact ct293 w1 top z409 z60 z67 hw6 hf7 hs8 (by omega) (by omega) (by omega) (by omega)
                          · -- 203
                            refine ax_go 1 (y := (204, [some (.ref o), some (.ref tx), some (.int s0), some (.ref wr), some (.int top), some (.int at1), some (.int z60), some (.int z67)], [.ref o], w1, 0, 0)) rfl trivial ?_
                            obtain ⟨p411, e412, hG413⟩ := hx_fr (k := 0) (s := 20) q98 rfl
                            refine hx_gf (l := 207) rfl rfl rfl g97 e412 ?_
                            refine ax_go 1 (y := (209, [some (.ref o), some (.ref tx), some (.int s0), some (.ref wr), some (.int top), some (.int at1), some (.int z60), some (.int z67)], [.int top, .ref p411], w1, 0, 0)) rfl trivial ?_
                            refine hx_k (l := 210) (m := 2) rfl rfl (by decide) (fun z414 h415 => ?_)
                            refine hx_sub (l := 211) rfl rfl (fun z416 h417 => ?_)
                            replace h417 := h417 (by omega) (by omega)
                            refine ax_go 3 (y := (215, [some (.ref o), some (.ref tx), some (.int s0), some (.ref wr), some (.int top), some (.int at1), some (.int z60), some (.int z67)], [.ref o, .int z60, .ref o, .int z416, .ref p411], w1, 0, 0)) rfl trivial ?_
                            refine hx_gf (l := 218) rfl rfl rfl g97 e412 ?_
                            refine ax_go 1 (y := (220, [some (.ref o), some (.ref tx), some (.int s0), some (.ref wr), some (.int top), some (.int at1), some (.int z60), some (.int z67)], [.int top, .ref p411, .int z60, .ref o, .int z416, .ref p411], w1, 0, 0)) rfl trivial ?_
                            refine hx_k (l := 221) (m := 2) rfl rfl (by decide) (fun z418 h419 => ?_)
                            refine hx_sub (l := 222) rfl rfl (fun z420 h421 => ?_)
                            replace h421 := h421 (by omega) (by omega)
                            obtain ⟨f422, g423, r424⟩ := hx_row hw6 hG413 (s := 20) (kd := 0) (n := 64) rfl (by decide)
                            refine hx_il (l := 223) rfl rfl g423 (by omega) (by omega) (fun z425 h426 => ?_)
                            refine hx_anyl (l := 224) rfl rfl (fun z427 => ?_)
                            refine ax_go 1 (y := (225, [some (.ref o), some (.ref tx), some (.int s0), some (.ref wr), some (.int top), some (.int at1), some (.int z60), some (.int z67)], [.ref o, .long z427, .int z60, .ref o, .int z416, .ref p411], w1, 0, 0)) rfl trivial ?_
                            refine hx_gf (l := 228) rfl rfl rfl g97 e412 ?_
                            refine ax_go 1 (y := (230, [some (.ref o), some (.ref tx), some (.int s0), some (.ref wr), some (.int top), some (.int at1), some (.int z60), some (.int z67)], [.int top, .ref p411, .long z427, .int z60, .ref o, .int z416, .ref p411], w1, 0, 0)) rfl trivial ?_
                            refine hx_k (l := 231) (m := 1) rfl rfl (by decide) (fun z428 h429 => ?_)
                            refine hx_sub (l := 232) rfl rfl (fun z430 h431 => ?_)
                            replace h431 := h431 (by omega) (by omega)
                            refine hx_il (l := 233) rfl rfl g423 (by omega) (by omega) (fun z432 h433 => ?_)
                            refine hx_anyl (l := 234) rfl rfl (fun z434 => ?_)
                            refine hx_ci (l := 237) (as := [.ref o, .int z60, .long z427, .long z434]) rfl rfl (hx_iv (j := 19) (n := 3) (o := o) (r := [.int z416, .ref p411]) rfl rfl g97 rfl) (h_X2_combined (fz := fz) hF (fun q hq => (by decide +kernel : ∀ q ∈ fb_X2_value1, q ∈ fb_X2_combined) q (hfz q hq)) (d + 0)) hw6 hf7 ⟨(hx_tr (G := G) (s := 5) (b := 0) hG0 (by decide)), (ck_top_ok (G := G) z60), (ck_ltop_ok (G := G) z427), (ck_ltop_ok (G := G) z434), trivial⟩ (fun w435 z440 hw436 hf437 m438 a441 b442 u443 => ?_)
                            have hs439 := ty_same_tr hs8 m438
                            obtain ⟨f444, g445, r446⟩ := hx_row hw436 hG413 (s := 20) (kd := 0) (n := 64) rfl (by decide)
                            refine hx_is (s := 20) (l := 238) rfl rfl rfl hw436 hG413 g445 (by omega) (by omega) hx_sg0 (fun w447 f448 g449 e450 o451 n452 hw453 n454 => ?_)
                            have hs455 := ty_same_tr hs439 (n454 fz (hx_ok hfz (by decide)))
                            have hf456 := hF _ _ (n454 pr_ (by decide)) hf437
                            refine hx_iinc (x := top) (n := (-1)) (l := 241) rfl rfl rfl (Nat.le_of_ble_eq_true rfl) (by omega) (by omega) (by decide) (fun z457 h458 => ?_)
                            change ab_wp ro (ab_Ev ro ab_codes (d + 1)) 2 false (some .int) ab_k_X2_value (fun o_1 => ∃ v w1, o_1 = (v, w1, 0, 0) ∧ ty_w sp_ G w1 ∧ F w1 ∧ ty_same G fz w w1 ∧ ck_res G (some (0, (-2147483648), 2147483647)) v ∧ ck_wit 0 0 [.ref o, .ref tx, .int s0, .ref wr] v) (241, [some (.ref o), some (.ref tx), some (.int s0), some (.ref wr), some (.int z457), some (.int at1), some (.int z60), some (.int z67)], [], w447, 0, 0)
                            refine ax_go 1 (y := (293, [some (.ref o), some (.ref tx), some (.int s0), some (.ref wr), some (.int z457), some (.int at1), some (.int z60), some (.int z67)], [], w447, 0, 0)) rfl trivial ?_
                            exact ct293 w447 z457 at1 z60 z67 hw453 hf456 hs455 (by omega) (by omega) (by omega) (by omega)
                        · -- 173
                          refine ax_go 1 (y := (174, [some (.ref o), some (.ref tx), some (.int s0), some (.ref wr), some (.int top), some (.int at1), some (.int z60), some (.int z67)], [.ref o], w1, 0, 0)) rfl trivial ?_
                          obtain ⟨p459, e460, hG461⟩ := hx_fr (k := 0) (s := 20) q98 rfl
                          refine hx_gf (l := 177) rfl rfl rfl g97 e460 ?_
                          refine ax_go 1 (y := (179, [some (.ref o), some (.ref tx), some (.int s0), some (.ref wr), some (.int top), some (.int at1), some (.int z60), some (.int z67)], [.int top, .ref p459], w1, 0, 0)) rfl trivial ?_
                          refine hx_k (l := 180) (m := 1) rfl rfl (by decide) (fun z462 h463 => ?_)
                          refine hx_sub (l := 181) rfl rfl (fun z464 h465 => ?_)
                          replace h465 := h465 (by omega) (by omega)
                          refine hx_k (l := 182) (m := 1) rfl rfl (by decide) (fun z466 h467 => ?_)
                          refine ax_go 1 (y := (183, [some (.ref o), some (.ref tx), some (.int s0), some (.ref wr), some (.int top), some (.int at1), some (.int z60), some (.int z67)], [.ref o, .int z466, .int z464, .ref p459], w1, 0, 0)) rfl trivial ?_
                          refine hx_gf (l := 186) rfl rfl rfl g97 e460 ?_
                          refine ax_go 1 (y := (188, [some (.ref o), some (.ref tx), some (.int s0), some (.ref wr), some (.int top), some (.int at1), some (.int z60), some (.int z67)], [.int top, .ref p459, .int z466, .int z464, .ref p459], w1, 0, 0)) rfl trivial ?_
                          refine hx_k (l := 189) (m := 1) rfl rfl (by decide) (fun z468 h469 => ?_)
                          refine hx_sub (l := 190) rfl rfl (fun z470 h471 => ?_)
                          replace h471 := h471 (by omega) (by omega)
                          obtain ⟨f472, g473, r474⟩ := hx_row hw6 hG461 (s := 20) (kd := 0) (n := 64) rfl (by decide)
                          refine hx_il (l := 191) rfl rfl g473 (by omega) (by omega) (fun z475 h476 => ?_)
                          refine hx_sub (l := 192) rfl rfl (fun z477 h478 => ?_)
                          refine hx_is (s := 20) (l := 193) rfl rfl rfl hw6 hG461 g473 (by omega) (by omega) hx_sg0 (fun w479 f480 g481 e482 o483 n484 hw485 n486 => ?_)
                          have hs487 := ty_same_tr hs8 (n486 fz (hx_ok hfz (by decide)))
                          have hf488 := hF _ _ (n486 pr_ (by decide)) hf7
                          refine ax_go 1 (y := (293, [some (.ref o), some (.ref tx), some (.int s0), some (.ref wr), some (.int top), some (.int at1), some (.int z60), some (.int z67)], [], w479, 0, 0)) rfl trivial ?_
                          exact ct293 w479 top at1 z60 z67 hw485 hf488 hs487 (by omega) (by omega) (by omega) (by omega)
                      · -- 158
                        refine ax_go 1 (y := (159, [some (.ref o), some (.ref tx), some (.int s0), some (.ref wr), some (.int top), some (.int at1), some (.int z60), some (.int z67)], [.ref o], w1, 0, 0)) rfl trivial ?_
                        refine hx_k (l := 160) (m := 1) rfl rfl (by decide) (fun z489 h490 => ?_)
                        refine hx_pf (q := (0, 0, 0, 0, 0, 1)) (s := 5) (l := 163) (v := .int z489) rfl rfl rfl (by decide) rfl rfl rfl hw6 hG0 g97 ⟨hx_01 (by omega) (by omega), trivial⟩ (hx_ti (G := G) (lo := 0) (hi := 1) (by omega) (by omega)) (fun w491 fs492 g493 e494 o495 n496 hw497 n498 => ?_)
                        have hs499 := ty_same_tr hs8 (n498 fz (hx_ok hfz (by decide)))
                        have hf500 := hF _ _ (n498 pr_ (by decide)) hf7
                        refine ax_go 1 (y := (293, [some (.ref o), some (.ref tx), some (.int s0), some (.ref wr), some (.int top), some (.int at1), some (.int z60), some (.int z67)], [], w491, 0, 0)) rfl trivial ?_
                        exact ct293 w491 top at1 z60 z67 hw497 hf500 hs499 (by omega) (by omega) (by omega) (by omega)
                · -- 77
                  refine ax_go 2 (y := (80, [some (.ref o), some (.ref tx), some (.int s0), some (.ref wr), some (.int top), some (.int at1), some (.int z60), some (.int z67)], [.ref o, .int top], w1, 0, 0)) rfl trivial ?_
                  obtain ⟨p501, e502, hG503⟩ := hx_fr (k := 0) (s := 20) q98 rfl
                  refine hx_gf (l := 83) rfl rfl rfl g97 e502 ?_
                  obtain ⟨f504, g505, r506⟩ := hx_row hw6 hG503 (s := 20) (kd := 0) (n := 64) rfl (by decide)
                  refine hx_len (l := 84) rfl rfl g505 rfl (by omega) (fun z507 h508 => ?_)
                  refine hx_ic_lt (l := 87) rfl rfl (fun h509 => ?_) (fun h509 => ?_)
                  · -- 95
                    refine ax_go 1 (y := (96, [some (.ref o), some (.ref tx), some (.int s0), some (.ref wr), some (.int top), some (.int at1), some (.int z60), some (.int z67)], [.ref o], w1, 0, 0)) rfl trivial ?_
                    refine hx_gf (l := 99) rfl rfl rfl g97 e502 ?_
                    refine ax_go 2 (y := (103, [some (.ref o), some (.ref tx), some (.int s0), some (.ref wr), some (.int top), some (.int at1), some (.int z60), some (.int z67)], [.int z60, .int top, .ref p501], w1, 0, 0)) rfl trivial ?_
                    refine hx_k (l := 104) (m := 1) rfl rfl (by decide) (fun z510 h511 => ?_)
                    refine hx_ic_ne (l := 107) rfl rfl (fun h512 => ?_) (fun h512 => ?_)
                    · -- 112
                      refine ax_go 1 (y := (114, [some (.ref o), some (.ref tx), some (.int s0), some (.ref wr), some (.int top), some (.int at1), some (.int z60), some (.int z67)], [.int z67, .int top, .ref p501], w1, 0, 0)) rfl trivial ?_
                      refine hx_if_lt (l := 117) rfl rfl (fun h513 => ?_) (fun h513 => ?_)
                      · -- 131
                        refine hx_k (l := 132) (m := 0) rfl rfl (by decide) (fun z514 h515 => ?_)
                        refine hx_is (s := 20) (l := 133) rfl rfl rfl hw6 hG503 g505 (by omega) (by omega) hx_sg0 (fun w516 f517 g518 e519 o520 n521 hw522 n523 => ?_)
                        have hs524 := ty_same_tr hs8 (n523 fz (hx_ok hfz (by decide)))
                        have hf525 := hF _ _ (n523 pr_ (by decide)) hf7
                        refine hx_iinc (x := top) (n := 1) (l := 136) rfl rfl rfl (Nat.le_of_ble_eq_true rfl) (by omega) (by omega) (by decide) (fun z526 h527 => ?_)
                        change ab_wp ro (ab_Ev ro ab_codes (d + 1)) 2 false (some .int) ab_k_X2_value (fun o_1 => ∃ v w1, o_1 = (v, w1, 0, 0) ∧ ty_w sp_ G w1 ∧ F w1 ∧ ty_same G fz w w1 ∧ ck_res G (some (0, (-2147483648), 2147483647)) v ∧ ck_wit 0 0 [.ref o, .ref tx, .int s0, .ref wr] v) (136, [some (.ref o), some (.ref tx), some (.int s0), some (.ref wr), some (.int z526), some (.int at1), some (.int z60), some (.int z67)], [], w516, 0, 0)
                        refine ax_go 1 (y := (293, [some (.ref o), some (.ref tx), some (.int s0), some (.ref wr), some (.int z526), some (.int at1), some (.int z60), some (.int z67)], [], w516, 0, 0)) rfl trivial ?_
                        exact ct293 w516 z526 at1 z60 z67 hw522 hf525 hs524 (by omega) (by omega) (by omega) (by omega)
                      · -- 117
                        refine ax_go 2 (y := (120, [some (.ref o), some (.ref tx), some (.int s0), some (.ref wr), some (.int top), some (.int at1), some (.int z60), some (.int z67)], [.ref wr, .int z67, .int top, .ref p501], w1, 0, 0)) rfl trivial ?_
                        obtain ⟨f528, g529, r530⟩ := hx_row hw6 hG3 (s := 21) (kd := 0) (n := 25) rfl (by decide)
                        refine hx_len (l := 121) rfl rfl g529 rfl (by omega) (fun z531 h532 => ?_)
                        refine hx_ic_ge (l := 124) rfl rfl (fun h533 => ?_) (fun h533 => ?_)
                        · -- 131
                          refine hx_k (l := 132) (m := 0) rfl rfl (by decide) (fun z534 h535 => ?_)
                          refine hx_is (s := 20) (l := 133) rfl rfl rfl hw6 hG503 g505 (by omega) (by omega) hx_sg0 (fun w536 f537 g538 e539 o540 n541 hw542 n543 => ?_)
                          have hs544 := ty_same_tr hs8 (n543 fz (hx_ok hfz (by decide)))
                          have hf545 := hF _ _ (n543 pr_ (by decide)) hf7
                          refine hx_iinc (x := top) (n := 1) (l := 136) rfl rfl rfl (Nat.le_of_ble_eq_true rfl) (by omega) (by omega) (by decide) (fun z546 h547 => ?_)
                          change ab_wp ro (ab_Ev ro ab_codes (d + 1)) 2 false (some .int) ab_k_X2_value (fun o_1 => ∃ v w1, o_1 = (v, w1, 0, 0) ∧ ty_w sp_ G w1 ∧ F w1 ∧ ty_same G fz w w1 ∧ ck_res G (some (0, (-2147483648), 2147483647)) v ∧ ck_wit 0 0 [.ref o, .ref tx, .int s0, .ref wr] v) (136, [some (.ref o), some (.ref tx), some (.int s0), some (.ref wr), some (.int z546), some (.int at1), some (.int z60), some (.int z67)], [], w536, 0, 0)
                          refine ax_go 1 (y := (293, [some (.ref o), some (.ref tx), some (.int s0), some (.ref wr), some (.int z546), some (.int at1), some (.int z60), some (.int z67)], [], w536, 0, 0)) rfl trivial ?_
                          exact ct293 w536 z546 at1 z60 z67 hw542 hf545 hs544 (by omega) (by omega) (by omega) (by omega)
                        · -- 124
                          refine ax_go 2 (y := (127, [some (.ref o), some (.ref tx), some (.int s0), some (.ref wr), some (.int top), some (.int at1), some (.int z60), some (.int z67)], [.int z67, .ref wr, .int top, .ref p501], w1, 0, 0)) rfl trivial ?_
                          refine hx_il (l := 128) rfl rfl g529 (by omega) (by omega) (fun z548 h549 => ?_)
                          refine ax_go 1 (y := (132, [some (.ref o), some (.ref tx), some (.int s0), some (.ref wr), some (.int top), some (.int at1), some (.int z60), some (.int z67)], [.int z548, .int top, .ref p501], w1, 0, 0)) rfl trivial ?_
                          refine hx_is (s := 20) (l := 133) rfl rfl rfl hw6 hG503 g505 (by omega) (by omega) hx_sg0 (fun w550 f551 g552 e553 o554 n555 hw556 n557 => ?_)
                          have hs558 := ty_same_tr hs8 (n557 fz (hx_ok hfz (by decide)))
                          have hf559 := hF _ _ (n557 pr_ (by decide)) hf7
                          refine hx_iinc (x := top) (n := 1) (l := 136) rfl rfl rfl (Nat.le_of_ble_eq_true rfl) (by omega) (by omega) (by decide) (fun z560 h561 => ?_)
                          change ab_wp ro (ab_Ev ro ab_codes (d + 1)) 2 false (some .int) ab_k_X2_value (fun o_1 => ∃ v w1, o_1 = (v, w1, 0, 0) ∧ ty_w sp_ G w1 ∧ F w1 ∧ ty_same G fz w w1 ∧ ck_res G (some (0, (-2147483648), 2147483647)) v ∧ ck_wit 0 0 [.ref o, .ref tx, .int s0, .ref wr] v) (136, [some (.ref o), some (.ref tx), some (.int s0), some (.ref wr), some (.int z560), some (.int at1), some (.int z60), some (.int z67)], [], w550, 0, 0)
                          refine ax_go 1 (y := (293, [some (.ref o), some (.ref tx), some (.int s0), some (.ref wr), some (.int z560), some (.int at1), some (.int z60), some (.int z67)], [], w550, 0, 0)) rfl trivial ?_
                          exact ct293 w550 z560 at1 z60 z67 hw556 hf559 hs558 (by omega) (by omega) (by omega) (by omega)
                    · -- 107
                      refine ax_go 2 (y := (132, [some (.ref o), some (.ref tx), some (.int s0), some (.ref wr), some (.int top), some (.int at1), some (.int z60), some (.int z67)], [.int z67, .int top, .ref p501], w1, 0, 0)) rfl trivial ?_
                      refine hx_is (s := 20) (l := 133) rfl rfl rfl hw6 hG503 g505 (by omega) (by omega) hx_sg0 (fun w562 f563 g564 e565 o566 n567 hw568 n569 => ?_)
                      have hs570 := ty_same_tr hs8 (n569 fz (hx_ok hfz (by decide)))
                      have hf571 := hF _ _ (n569 pr_ (by decide)) hf7
                      refine hx_iinc (x := top) (n := 1) (l := 136) rfl rfl rfl (Nat.le_of_ble_eq_true rfl) (by omega) (by omega) (by decide) (fun z572 h573 => ?_)
                      change ab_wp ro (ab_Ev ro ab_codes (d + 1)) 2 false (some .int) ab_k_X2_value (fun o_1 => ∃ v w1, o_1 = (v, w1, 0, 0) ∧ ty_w sp_ G w1 ∧ F w1 ∧ ty_same G fz w w1 ∧ ck_res G (some (0, (-2147483648), 2147483647)) v ∧ ck_wit 0 0 [.ref o, .ref tx, .int s0, .ref wr] v) (136, [some (.ref o), some (.ref tx), some (.int s0), some (.ref wr), some (.int z572), some (.int at1), some (.int z60), some (.int z67)], [], w562, 0, 0)
                      refine ax_go 1 (y := (293, [some (.ref o), some (.ref tx), some (.int s0), some (.ref wr), some (.int z572), some (.int at1), some (.int z60), some (.int z67)], [], w562, 0, 0)) rfl trivial ?_
                      exact ct293 w562 z572 at1 z60 z67 hw568 hf571 hs570 (by omega) (by omega) (by omega) (by omega)
                  · -- 87
                    refine ax_go 1 (y := (88, [some (.ref o), some (.ref tx), some (.int s0), some (.ref wr), some (.int top), some (.int at1), some (.int z60), some (.int z67)], [.ref o], w1, 0, 0)) rfl trivial ?_
                    refine hx_k (l := 89) (m := 1) rfl rfl (by decide) (fun z574 h575 => ?_)
                    refine hx_pf (q := (0, 0, 0, 0, 0, 1)) (s := 5) (l := 92) (v := .int z574) rfl rfl rfl (by decide) rfl rfl rfl hw6 hG0 g97 ⟨hx_01 (by omega) (by omega), trivial⟩ (hx_ti (G := G) (lo := 0) (hi := 1) (by omega) (by omega)) (fun w576 fs577 g578 e579 o580 n581 hw582 n583 => ?_)
                    have hs584 := ty_same_tr hs8 (n583 fz (hx_ok hfz (by decide)))
                    have hf585 := hF _ _ (n583 pr_ (by decide)) hf7
                    refine ax_go 2 (y := (300, [some (.ref o), some (.ref tx), some (.int s0), some (.ref wr), some (.int top), some (.int at1), some (.int z60), some (.int z67)], [.ref o], w576, 0, 0)) rfl trivial ?_
                    refine hx_gf (l := 303) rfl rfl rfl g578 e579 ?_
                    refine hx_if_ne (l := 306) rfl rfl (fun h586 => ?_) (fun h586 => by omega)
                    refine hx_k (l := 313) (m := 0) rfl rfl (by decide) (fun z587 h588 => ?_)
                    refine ax_go 1 (y := (322, [some (.ref o), some (.ref tx), some (.int s0), some (.ref wr), some (.int top), some (.int at1), some (.int z60), some (.int z67)], [.int z587], w576, 0, 0)) rfl trivial ?_
                    exact ax_ret rfl rfl trivial ⟨some (.int z587), _, rfl, hw582, hf585, hs584, (ck_top_ok (G := G) z587), trivial⟩
            · -- 62
              refine ax_go 2 (y := (300, [some (.ref o), some (.ref tx), some (.int s0), some (.ref wr), some (.int top), some (.int at1), some (.int z60), some (.int z67)], [.ref o], w1, 0, 0)) rfl trivial ?_
              refine hx_gf (l := 303) rfl rfl rfl g97 e100 ?_
              refine hx_if_ne (l := 306) rfl rfl (fun h589 => ?_) (fun h589 => ?_)
              · -- 312
                refine hx_k (l := 313) (m := 0) rfl rfl (by decide) (fun z590 h591 => ?_)
                refine ax_go 1 (y := (322, [some (.ref o), some (.ref tx), some (.int s0), some (.ref wr), some (.int top), some (.int at1), some (.int z60), some (.int z67)], [.int z590], w1, 0, 0)) rfl trivial ?_
                exact ax_ret rfl rfl trivial ⟨some (.int z590), _, rfl, hw6, hf7, hs8, (ck_top_ok (G := G) z590), trivial⟩
              · -- 306
                refine ax_go 1 (y := (308, [some (.ref o), some (.ref tx), some (.int s0), some (.ref wr), some (.int top), some (.int at1), some (.int z60), some (.int z67)], [.int top], w1, 0, 0)) rfl trivial ?_
                refine hx_k (l := 309) (m := 1) rfl rfl (by decide) (fun z592 h593 => ?_)
                refine hx_ic_ge (l := 312) rfl rfl (fun h594 => ?_) (fun h594 => ?_)
                · -- 316
                  refine ax_go 1 (y := (317, [some (.ref o), some (.ref tx), some (.int s0), some (.ref wr), some (.int top), some (.int at1), some (.int z60), some (.int z67)], [.ref o], w1, 0, 0)) rfl trivial ?_
                  obtain ⟨p595, e596, hG597⟩ := hx_fr (k := 0) (s := 20) q98 rfl
                  refine hx_gf (l := 320) rfl rfl rfl g97 e596 ?_
                  refine hx_k (l := 321) (m := 0) rfl rfl (by decide) (fun z598 h599 => ?_)
                  obtain ⟨f600, g601, r602⟩ := hx_row hw6 hG597 (s := 20) (kd := 0) (n := 64) rfl (by decide)
                  refine hx_il (l := 322) rfl rfl g601 (by omega) (by omega) (fun z603 h604 => ?_)
                  exact ax_ret rfl rfl trivial ⟨some (.int z603), _, rfl, hw6, hf7, hs8, (ck_top_ok (G := G) z603), trivial⟩
                · -- 312
                  refine hx_k (l := 313) (m := 0) rfl rfl (by decide) (fun z605 h606 => ?_)
                  refine ax_go 1 (y := (322, [some (.ref o), some (.ref tx), some (.int s0), some (.ref wr), some (.int top), some (.int at1), some (.int z60), some (.int z67)], [.int z605], w1, 0, 0)) rfl trivial ?_
                  exact ax_ret rfl rfl trivial ⟨some (.int z605), _, rfl, hw6, hf7, hs8, (ck_top_ok (G := G) z605), trivial⟩
    change ab_wp ro (ab_Ev ro ab_codes (d + 1)) 2 false (some .int) ab_k_X2_value (fun o_1 => ∃ v w1, o_1 = (v, w1, 0, 0) ∧ ty_w sp_ G w1 ∧ F w1 ∧ ty_same G fz w w1 ∧ ck_res G (some (0, (-2147483648), 2147483647)) v ∧ ck_wit 0 0 [.ref o, .ref tx, .int s0, .ref wr] v) (0, [some (.ref o), some (.ref tx), some (.int s0), some (.ref wr), none, none, none, none], [], w, 0, 0)
    refine ax_go 1 (y := (1, [some (.ref o), some (.ref tx), some (.int s0), some (.ref wr), none, none, none, none], [.ref o], w, 0, 0)) rfl trivial ?_
    refine hx_k (l := 2) (m := 0) rfl rfl (by decide) (fun z607 h608 => ?_)
    obtain ⟨fs609, g610, -, q611⟩ := hx_obj hw hG0 (s := 5) rfl (by decide)
    refine hx_pf (q := (0, 0, 0, 0, 0, 1)) (s := 5) (l := 5) (v := .int z607) rfl rfl rfl (by decide) rfl rfl rfl hw hG0 g610 ⟨hx_01 (by omega) (by omega), trivial⟩ (hx_ti (G := G) (lo := 0) (hi := 1) (by omega) (by omega)) (fun w612 fs613 g614 e615 o616 n617 hw618 n619 => ?_)
    have hs620 := ty_same_tr (ty_same_rf w) (n619 fz (hx_ok hfz (by decide)))
    have hf621 := hF _ _ (n619 pr_ (by decide)) hf
    refine ax_go 1 (y := (6, [some (.ref o), some (.ref tx), some (.int s0), some (.ref wr), none, none, none, none], [.int s0], w612, 0, 0)) rfl trivial ?_
    refine hx_if_ge (l := 9) rfl rfl (fun h622 => ?_) (fun h622 => ?_)
    · -- 11
      refine hx_k (l := 12) (m := 0) rfl rfl (by decide) (fun z623 h624 => ?_)
      refine ax_go 3 (y := (17, [some (.ref o), some (.ref tx), some (.int s0), some (.ref wr), some (.int z623), some (.int s0), none, none], [], w612, 0, 0)) rfl trivial ?_
      exact ct17 _ w612 z623 s0 none none hw618 hf621 hs620 (by omega) (by omega) (by omega) (by omega) (Nat.lt_succ_self _)
    · -- 9
      refine hx_k (l := 10) (m := 1) rfl rfl (by decide) (fun z625 h626 => ?_)
      exact ax_ret rfl rfl trivial ⟨some (.int z625), _, rfl, hw618, hf621, hs620, (ck_top_ok (G := G) z625), trivial⟩
def fb_X1_arrive0 : List (Nat × Nat) := [(8, 3), (8, 5), (19, 999), (32, 999), (33, 999), (34, 999), (35, 999), (44, 999), (45, 999), (1, 0), (18, 999), (2, 11), (2, 14), (1, 15), (54, 11), (4, 2), (7, 9), (30, 13), (30, 34), (30, 2), (30, 22), (30, 23), (30, 24), (30, 25), (46, 999), (47, 999), (30, 35), (30, 36), (7, 0), (24, 999), (37, 999), (30, 4), (30, 5), (30, 6), (30, 8), (30, 9), (30, 10), (30, 11), (30, 14), (30, 15), (30, 16), (30, 17), (30, 18), (30, 19), (30, 20), (30, 21), (39, 999), (40, 999), (41, 999), (30, 30), (30, 42), (30, 43), (30, 44), (1, 1), (1, 3), (1, 10), (1, 13), (8, 0), (30, 49), (2, 15), (8, 1)]
set_option maxHeartbeats 8000000 in
theorem h_X1_arrive0 {ro : ab_R} {G : Nat → Nat} {fz : List (Nat × Nat)} {F : ab_W → Prop} (hF : ∀ w w', ty_same G pr_ w w' → F w → F w') (hfz : ∀ q ∈ fz, q ∈ fb_X1_arrive0) (d : Nat) : ck_ct ro sp_ G F fz (ab_Ev ro ab_codes (d + 2)) 12 [(2, 54, 0), (0, (-2147483648), 2147483647), (0, (-2147483648), 2147483647)] none 0 0 := by
  refine ck_hand (d := d + 1) (by decide) (fun as w hw hf has => ?_)
  match as, has with
  | [v0, v1, v2], ⟨h0, h1, h2, _⟩ =>
    obtain ⟨o, rfl, _, hG0⟩ := ty_refn h0 rfl rfl
    replace hG0 : G o = 54 := hG0
    obtain ⟨to, rfl, hl1, hh1⟩ := ty_int h1 rfl
    replace hl1 : ((-2147483648) : Int) ≤ to.toInt := hl1
    replace hh1 : to.toInt ≤ 2147483647 := hh1
    obtain ⟨pp, rfl, hl2, hh2⟩ := ty_int h2 rfl
    replace hl2 : ((-2147483648) : Int) ≤ pp.toInt := hl2
    replace hh2 : pp.toInt ≤ 2147483647 := hh2
    refine ⟨rfl, ?_⟩
    change ab_wp ro (ab_Ev ro ab_codes (d + 1)) 1 false none ab_k_X1_arrive (fun o_1 => ∃ v w1, o_1 = (v, w1, 0, 0) ∧ ty_w sp_ G w1 ∧ F w1 ∧ ty_same G fz w w1 ∧ ck_res G none v ∧ ck_wit 0 0 [.ref o, .int to, .int pp] v) (0, [some (.ref o), some (.int to), some (.int pp)], [], w, 0, 0)
    refine ax_go 2 (y := (2, [some (.ref o), some (.int to), some (.int pp)], [.int to, .ref o], w, 0, 0)) rfl trivial ?_
    obtain ⟨fs1, g2, -, q3⟩ := hx_obj hw hG0 (s := 54) rfl (by decide)
    refine hx_ci (l := 5) (as := [.ref o, .int to]) rfl rfl (hx_iv (j := 5) (n := 1) (o := o) (r := []) rfl rfl g2 rfl) (h_X1_has1 (fz := fz) hF (fun q hq => (by decide +kernel : ∀ q ∈ fb_X1_arrive0, q ∈ fb_X1_has1) q (hfz q hq)) (d + 0)) hw hf ⟨(hx_tr (G := G) (s := 54) (b := 0) hG0 (by decide)), (ck_top_ok (G := G) to), trivial⟩ (fun w4 z9 hw5 hf6 m7 a10 b11 u12 => ?_)
    have u13 : z9.toInt ≠ 0 → (0 : Int) ≤ to.toInt ∧ to.toInt ≤ 9 := fun hz => hx_wit (a := 1) (wf := 10000000001009) u12 rfl hz
    have hs8 := ty_same_tr (ty_same_rf w) m7
    refine hx_if_eq (l := 8) rfl rfl (fun h14 => ?_) (fun h14 => ?_)
    · -- 31
      refine ax_go 1 (y := (32, [some (.ref o), some (.int to), some (.int pp)], [.ref o], w4, 0, 0)) rfl trivial ?_
      refine hx_k (l := 34) (m := 99999) rfl rfl (by decide) (fun z15 h16 => ?_)
      refine ax_go 1 (y := (35, [some (.ref o), some (.int to), some (.int pp)], [.ref o, .int z15, .ref o], w4, 0, 0)) rfl trivial ?_
      obtain ⟨fs17, g18, -, q19⟩ := hx_obj hw5 hG0 (s := 54) rfl (by decide)
      obtain ⟨x20, e21, a22, b23⟩ := hx_fi (k := 13) (lo := (-2147483648)) (hi := 2147483647) q19 rfl
      refine hx_gf (l := 38) rfl rfl rfl g18 e21 ?_
      refine ax_go 1 (y := (39, [some (.ref o), some (.int to), some (.int pp)], [.int pp, .int x20, .int z15, .ref o], w4, 0, 0)) rfl trivial ?_
      refine hx_add (l := 40) rfl rfl (fun z24 h25 => ?_)
      refine hx_min (l := 43) rfl rfl (by decide) rfl (fun z26 h27 => ?_)
      refine hx_pf (q := (0, 0, 0, 0, (-2147483648), 2147483647)) (s := 54) (l := 46) (v := .int z26) rfl rfl rfl (by decide) rfl rfl rfl hw5 hG0 g18 trivial (ck_top_ok (G := G) z26) (fun w28 fs29 g30 e31 o32 n33 hw34 n35 => ?_)
      have hs36 := ty_same_tr hs8 (n35 fz (hx_ok hfz (by decide)))
      have hf37 := hF _ _ (n35 pr_ (by decide)) hf6
      refine ax_go 2 (y := (48, [some (.ref o), some (.int to), some (.int pp)], [.ref o, .ref o], w28, 0, 0)) rfl trivial ?_
      have q38 := hx_oq hw34 g30 hG0 (s := 54) rfl
      obtain ⟨x39, e40, a41, b42⟩ := hx_fi (k := 17) (lo := (-2147483648)) (hi := 2147483647) q38 rfl
      refine hx_gf (l := 51) rfl rfl rfl g30 e40 ?_
      refine ax_go 1 (y := (52, [some (.ref o), some (.int to), some (.int pp)], [.int pp, .int x39, .ref o], w28, 0, 0)) rfl trivial ?_
      refine hx_add (l := 53) rfl rfl (fun z43 h44 => ?_)
      refine hx_pf (q := (0, 0, 0, 0, (-2147483648), 2147483647)) (s := 54) (l := 56) (v := .int z43) rfl rfl rfl (by decide) rfl rfl rfl hw34 hG0 g30 trivial (ck_top_ok (G := G) z43) (fun w45 fs46 g47 e48 o49 n50 hw51 n52 => ?_)
      have hs53 := ty_same_tr hs36 (n52 fz (hx_ok hfz (by decide)))
      have hf54 := hF _ _ (n52 pr_ (by decide)) hf37
      exact ax_ret rfl rfl trivial ⟨none, _, rfl, hw51, hf54, hs53, trivial, trivial⟩
    · -- 8
      refine ax_go 1 (y := (9, [some (.ref o), some (.int to), some (.int pp)], [.ref o], w4, 0, 0)) rfl trivial ?_
      obtain ⟨fs55, g56, -, q57⟩ := hx_obj hw5 hG0 (s := 54) rfl (by decide)
      obtain ⟨p58, e59, hG60⟩ := hx_fr (k := 2) (s := 11) q57 rfl
      refine hx_gf (l := 12) rfl rfl rfl g56 e59 ?_
      refine ax_go 1 (y := (13, [some (.ref o), some (.int to), some (.int pp)], [.int to, .ref p58], w4, 0, 0)) rfl trivial ?_
      refine hx_k (l := 16) (m := 999) rfl rfl (by decide) (fun z61 h62 => ?_)
      refine ax_go 1 (y := (17, [some (.ref o), some (.int to), some (.int pp)], [.ref o, .int z61, .int to, .ref p58], w4, 0, 0)) rfl trivial ?_
      refine hx_gf (l := 20) rfl rfl rfl g56 e59 ?_
      refine ax_go 1 (y := (21, [some (.ref o), some (.int to), some (.int pp)], [.int to, .ref p58, .int z61, .int to, .ref p58], w4, 0, 0)) rfl trivial ?_
      obtain ⟨f63, g64, r65⟩ := hx_row hw5 hG60 (s := 11) (kd := 0) (n := 10) rfl (by decide)
      refine hx_il (l := 22) rfl rfl g64 (by omega) (by omega) (fun z66 h67 => ?_)
      refine ax_go 1 (y := (23, [some (.ref o), some (.int to), some (.int pp)], [.int pp, .int z66, .int z61, .int to, .ref p58], w4, 0, 0)) rfl trivial ?_
      refine hx_add (l := 24) rfl rfl (fun z68 h69 => ?_)
      refine hx_min (l := 27) rfl rfl (by decide) rfl (fun z70 h71 => ?_)
      refine hx_is (s := 11) (l := 28) rfl rfl rfl hw5 hG60 g64 (by omega) (by omega) hx_sg0 (fun w72 f73 g74 e75 o76 n77 hw78 n79 => ?_)
      have hs80 := ty_same_tr hs8 (n79 fz (hx_ok hfz (by decide)))
      have hf81 := hF _ _ (n79 pr_ (by decide)) hf6
      refine ax_go 1 (y := (56, [some (.ref o), some (.int to), some (.int pp)], [], w72, 0, 0)) rfl trivial ?_
      exact ax_ret rfl rfl trivial ⟨none, _, rfl, hw78, hf81, hs80, trivial, trivial⟩
def fb_X1_arrive1 : List (Nat × Nat) := [(8, 3), (8, 5), (19, 999), (32, 999), (33, 999), (34, 999), (35, 999), (44, 999), (45, 999), (1, 0), (18, 999), (2, 11), (2, 14), (1, 15), (54, 11), (4, 2), (7, 9), (30, 13), (30, 34), (30, 2), (30, 22), (30, 23), (30, 24), (30, 25), (46, 999), (47, 999), (30, 35), (30, 36), (7, 0), (24, 999), (37, 999), (30, 4), (30, 5), (30, 6), (30, 8), (30, 9), (30, 10), (30, 11), (30, 14), (30, 15), (30, 16), (30, 17), (30, 18), (30, 19), (30, 20), (30, 21), (39, 999), (40, 999), (41, 999), (30, 30), (30, 42), (30, 43), (30, 44), (1, 1), (1, 3), (1, 10), (1, 13), (8, 0), (30, 49), (2, 15), (8, 1)]
set_option maxHeartbeats 8000000 in
theorem h_X1_arrive1 {ro : ab_R} {G : Nat → Nat} {fz : List (Nat × Nat)} {F : ab_W → Prop} (hF : ∀ w w', ty_same G pr_ w w' → F w → F w') (hfz : ∀ q ∈ fz, q ∈ fb_X1_arrive1) (d : Nat) : ck_ct ro sp_ G F fz (ab_Ev ro ab_codes (d + 2)) 12 [(2, 2, 0), (0, (-2147483648), 2147483647), (0, (-2147483648), 2147483647)] none 0 0 := by
  refine ck_hand (d := d + 1) (by decide) (fun as w hw hf has => ?_)
  match as, has with
  | [v0, v1, v2], ⟨h0, h1, h2, _⟩ =>
    obtain ⟨o, rfl, _, hG0⟩ := ty_refn h0 rfl rfl
    replace hG0 : G o = 2 := hG0
    obtain ⟨to, rfl, hl1, hh1⟩ := ty_int h1 rfl
    replace hl1 : ((-2147483648) : Int) ≤ to.toInt := hl1
    replace hh1 : to.toInt ≤ 2147483647 := hh1
    obtain ⟨pp, rfl, hl2, hh2⟩ := ty_int h2 rfl
    replace hl2 : ((-2147483648) : Int) ≤ pp.toInt := hl2
    replace hh2 : pp.toInt ≤ 2147483647 := hh2
    refine ⟨rfl, ?_⟩
    change ab_wp ro (ab_Ev ro ab_codes (d + 1)) 1 false none ab_k_X1_arrive (fun o_1 => ∃ v w1, o_1 = (v, w1, 0, 0) ∧ ty_w sp_ G w1 ∧ F w1 ∧ ty_same G fz w w1 ∧ ck_res G none v ∧ ck_wit 0 0 [.ref o, .int to, .int pp] v) (0, [some (.ref o), some (.int to), some (.int pp)], [], w, 0, 0)
    refine ax_go 2 (y := (2, [some (.ref o), some (.int to), some (.int pp)], [.int to, .ref o], w, 0, 0)) rfl trivial ?_
    obtain ⟨fs1, g2, -, q3⟩ := hx_obj hw hG0 (s := 2) rfl (by decide)
    refine hx_ci (l := 5) (as := [.ref o, .int to]) rfl rfl (hx_iv (j := 5) (n := 1) (o := o) (r := []) rfl rfl g2 rfl) (h_X1_has0 (fz := fz) hF (fun q hq => (by decide +kernel : ∀ q ∈ fb_X1_arrive1, q ∈ fb_X1_has0) q (hfz q hq)) (d + 0)) hw hf ⟨(hx_tr (G := G) (s := 2) (b := 0) hG0 (by decide)), (ck_top_ok (G := G) to), trivial⟩ (fun w4 z9 hw5 hf6 m7 a10 b11 u12 => ?_)
    have u13 : z9.toInt ≠ 0 → (0 : Int) ≤ to.toInt ∧ to.toInt ≤ 9 := fun hz => hx_wit (a := 1) (wf := 10000000001009) u12 rfl hz
    have hs8 := ty_same_tr (ty_same_rf w) m7
    refine hx_if_eq (l := 8) rfl rfl (fun h14 => ?_) (fun h14 => ?_)
    · -- 31
      refine ax_go 1 (y := (32, [some (.ref o), some (.int to), some (.int pp)], [.ref o], w4, 0, 0)) rfl trivial ?_
      refine hx_k (l := 34) (m := 99999) rfl rfl (by decide) (fun z15 h16 => ?_)
      refine ax_go 1 (y := (35, [some (.ref o), some (.int to), some (.int pp)], [.ref o, .int z15, .ref o], w4, 0, 0)) rfl trivial ?_
      obtain ⟨fs17, g18, -, q19⟩ := hx_obj hw5 hG0 (s := 2) rfl (by decide)
      obtain ⟨x20, e21, a22, b23⟩ := hx_fi (k := 13) (lo := (-2147483648)) (hi := 2147483647) q19 rfl
      refine hx_gf (l := 38) rfl rfl rfl g18 e21 ?_
      refine ax_go 1 (y := (39, [some (.ref o), some (.int to), some (.int pp)], [.int pp, .int x20, .int z15, .ref o], w4, 0, 0)) rfl trivial ?_
      refine hx_add (l := 40) rfl rfl (fun z24 h25 => ?_)
      refine hx_min (l := 43) rfl rfl (by decide) rfl (fun z26 h27 => ?_)
      refine hx_pf (q := (0, 0, 0, 0, (-2147483648), 2147483647)) (s := 2) (l := 46) (v := .int z26) rfl rfl rfl (by decide) rfl rfl rfl hw5 hG0 g18 trivial (ck_top_ok (G := G) z26) (fun w28 fs29 g30 e31 o32 n33 hw34 n35 => ?_)
      have hs36 := ty_same_tr hs8 (n35 fz (hx_ok hfz (by decide)))
      have hf37 := hF _ _ (n35 pr_ (by decide)) hf6
      refine ax_go 2 (y := (48, [some (.ref o), some (.int to), some (.int pp)], [.ref o, .ref o], w28, 0, 0)) rfl trivial ?_
      have q38 := hx_oq hw34 g30 hG0 (s := 2) rfl
      obtain ⟨x39, e40, a41, b42⟩ := hx_fi (k := 17) (lo := (-2147483648)) (hi := 2147483647) q38 rfl
      refine hx_gf (l := 51) rfl rfl rfl g30 e40 ?_
      refine ax_go 1 (y := (52, [some (.ref o), some (.int to), some (.int pp)], [.int pp, .int x39, .ref o], w28, 0, 0)) rfl trivial ?_
      refine hx_add (l := 53) rfl rfl (fun z43 h44 => ?_)
      refine hx_pf (q := (0, 0, 0, 0, (-2147483648), 2147483647)) (s := 2) (l := 56) (v := .int z43) rfl rfl rfl (by decide) rfl rfl rfl hw34 hG0 g30 trivial (ck_top_ok (G := G) z43) (fun w45 fs46 g47 e48 o49 n50 hw51 n52 => ?_)
      have hs53 := ty_same_tr hs36 (n52 fz (hx_ok hfz (by decide)))
      have hf54 := hF _ _ (n52 pr_ (by decide)) hf37
      exact ax_ret rfl rfl trivial ⟨none, _, rfl, hw51, hf54, hs53, trivial, trivial⟩
    · -- 8
      refine ax_go 1 (y := (9, [some (.ref o), some (.int to), some (.int pp)], [.ref o], w4, 0, 0)) rfl trivial ?_
      obtain ⟨fs55, g56, -, q57⟩ := hx_obj hw5 hG0 (s := 2) rfl (by decide)
      obtain ⟨p58, e59, hG60⟩ := hx_fr (k := 2) (s := 11) q57 rfl
      refine hx_gf (l := 12) rfl rfl rfl g56 e59 ?_
      refine ax_go 1 (y := (13, [some (.ref o), some (.int to), some (.int pp)], [.int to, .ref p58], w4, 0, 0)) rfl trivial ?_
      refine hx_k (l := 16) (m := 999) rfl rfl (by decide) (fun z61 h62 => ?_)
      refine ax_go 1 (y := (17, [some (.ref o), some (.int to), some (.int pp)], [.ref o, .int z61, .int to, .ref p58], w4, 0, 0)) rfl trivial ?_
      refine hx_gf (l := 20) rfl rfl rfl g56 e59 ?_
      refine ax_go 1 (y := (21, [some (.ref o), some (.int to), some (.int pp)], [.int to, .ref p58, .int z61, .int to, .ref p58], w4, 0, 0)) rfl trivial ?_
      obtain ⟨f63, g64, r65⟩ := hx_row hw5 hG60 (s := 11) (kd := 0) (n := 10) rfl (by decide)
      refine hx_il (l := 22) rfl rfl g64 (by omega) (by omega) (fun z66 h67 => ?_)
      refine ax_go 1 (y := (23, [some (.ref o), some (.int to), some (.int pp)], [.int pp, .int z66, .int z61, .int to, .ref p58], w4, 0, 0)) rfl trivial ?_
      refine hx_add (l := 24) rfl rfl (fun z68 h69 => ?_)
      refine hx_min (l := 27) rfl rfl (by decide) rfl (fun z70 h71 => ?_)
      refine hx_is (s := 11) (l := 28) rfl rfl rfl hw5 hG60 g64 (by omega) (by omega) hx_sg0 (fun w72 f73 g74 e75 o76 n77 hw78 n79 => ?_)
      have hs80 := ty_same_tr hs8 (n79 fz (hx_ok hfz (by decide)))
      have hf81 := hF _ _ (n79 pr_ (by decide)) hf6
      refine ax_go 1 (y := (56, [some (.ref o), some (.int to), some (.int pp)], [], w72, 0, 0)) rfl trivial ?_
      exact ax_ret rfl rfl trivial ⟨none, _, rfl, hw78, hf81, hs80, trivial, trivial⟩
def fb_X1_passDay0 : List (Nat × Nat) := [(8, 3), (8, 5), (19, 999), (32, 999), (33, 999), (34, 999), (35, 999), (44, 999), (45, 999), (1, 0), (18, 999), (2, 11), (2, 14), (1, 15), (54, 11), (4, 2), (7, 9), (30, 13), (30, 34), (30, 2), (30, 22), (30, 23), (30, 24), (30, 25), (46, 999), (47, 999), (30, 35), (30, 36), (7, 0), (24, 999), (37, 999), (30, 4), (30, 5), (30, 6), (30, 8), (30, 9), (30, 10), (30, 11), (30, 14), (30, 15), (30, 16), (30, 17), (30, 18), (30, 19), (30, 20), (30, 21), (39, 999), (40, 999), (41, 999), (30, 30), (30, 42), (30, 43), (30, 44), (1, 1), (1, 3), (1, 10), (1, 13), (8, 0), (30, 49), (2, 15), (8, 1)]
set_option maxHeartbeats 8000000 in
theorem h_X1_passDay0 {ro : ab_R} {G : Nat → Nat} {fz : List (Nat × Nat)} {F : ab_W → Prop} (hF : ∀ w w', ty_same G pr_ w w' → F w → F w') (hfz : ∀ q ∈ fz, q ∈ fb_X1_passDay0) (d : Nat) : ck_ct ro sp_ G F fz (ab_Ev ro ab_codes (d + 3)) 13 [(2, 54, 0)] (some (0, (-2147483648), 2147483647)) 0 0 := by
  refine ck_hand (d := d + 2) (by decide) (fun as w hw hf has => ?_)
  match as, has with
  | [v0], ⟨h0, _⟩ =>
    obtain ⟨o, rfl, _, hG0⟩ := ty_refn h0 rfl rfl
    replace hG0 : G o = 54 := hG0
    refine ⟨rfl, ?_⟩
    have ct11 : ∀ (nq : Nat) (w1 : ab_W) (arr : Int32) (sta : Int32) (g : Int32), ty_w sp_ G w1 → F w1 → ty_same G fz w w1 → (0 ≤ sta.toInt) → (sta.toInt ≤ g.toInt) → (0 ≤ g.toInt) → (g.toInt ≤ 16) → (17 - g.toInt).toNat < nq → ab_wp ro (ab_Ev ro ab_codes (d + 2)) 1 false (some .int) ab_k_X1_passDay (fun o_1 => ∃ v w1, o_1 = (v, w1, 0, 0) ∧ ty_w sp_ G w1 ∧ F w1 ∧ ty_same G fz w w1 ∧ ck_res G (some (0, (-2147483648), 2147483647)) v ∧ ck_wit 0 0 [.ref o] v) (11, [some (.ref o), some (.int arr), some (.int sta), some (.int g)], [], w1, 0, 0) := by
      intro nq
      induction nq with
      | zero => intro w1 arr sta g hw6 hf7 hs8 i2 i3 i4 i5 hm; exact absurd hm (Nat.not_lt_zero _)
      | succ nq ih11 =>
        intro w1 arr sta g hw6 hf7 hs8 i2 i3 i4 i5 hm11
        have ct133 : ∀ (w9 : ab_W) (arr2 : Int32) (sta2 : Int32) (g2 : Int32), ty_w sp_ G w9 → F w9 → ty_same G fz w w9 → (0 ≤ sta2.toInt) → (sta2.toInt ≤ g2.toInt + 1) → (g.toInt = g2.toInt) → (g2.toInt < 16) → ab_wp ro (ab_Ev ro ab_codes (d + 2)) 1 false (some .int) ab_k_X1_passDay (fun o_1 => ∃ v w1, o_1 = (v, w1, 0, 0) ∧ ty_w sp_ G w1 ∧ F w1 ∧ ty_same G fz w w1 ∧ ck_res G (some (0, (-2147483648), 2147483647)) v ∧ ck_wit 0 0 [.ref o] v) (133, [some (.ref o), some (.int arr2), some (.int sta2), some (.int g2)], [], w9, 0, 0) := by
          intro w9 arr2 sta2 g2 hw14 hf15 hs16 i10 i11 i12 i13
          refine hx_iinc (x := g2) (n := 1) (l := 136) rfl rfl rfl (Nat.le_of_ble_eq_true rfl) (by omega) (by omega) (by decide) (fun z17 h18 => ?_)
          change ab_wp ro (ab_Ev ro ab_codes (d + 2)) 1 false (some .int) ab_k_X1_passDay (fun o_1 => ∃ v w1, o_1 = (v, w1, 0, 0) ∧ ty_w sp_ G w1 ∧ F w1 ∧ ty_same G fz w w1 ∧ ck_res G (some (0, (-2147483648), 2147483647)) v ∧ ck_wit 0 0 [.ref o] v) (136, [some (.ref o), some (.int arr2), some (.int sta2), some (.int z17)], [], w9, 0, 0)
          refine ax_go 1 (y := (11, [some (.ref o), some (.int arr2), some (.int sta2), some (.int z17)], [], w9, 0, 0)) rfl trivial ?_
          exact ih11 w9 arr2 sta2 z17 hw14 hf15 hs16 (by omega) (by omega) (by omega) (by omega) (by omega)
        refine ax_go 2 (y := (13, [some (.ref o), some (.int arr), some (.int sta), some (.int g)], [.ref o, .int g], w1, 0, 0)) rfl trivial ?_
        obtain ⟨fs19, g20, -, q21⟩ := hx_obj hw6 hG0 (s := 54) rfl (by decide)
        obtain ⟨x22, e23, a24, b25⟩ := hx_fi (k := 12) (lo := 0) (hi := 16) q21 rfl
        refine hx_gf (l := 16) rfl rfl rfl g20 e23 ?_
        refine hx_ic_ge (l := 19) rfl rfl (fun h26 => ?_) (fun h26 => ?_)
        · -- 139
          refine ax_go 2 (y := (141, [some (.ref o), some (.int arr), some (.int sta), some (.int g)], [.int sta, .ref o], w1, 0, 0)) rfl trivial ?_
          refine hx_pf (q := (0, 0, 0, 0, 0, 16)) (s := 54) (l := 144) (v := .int sta) rfl rfl rfl (by decide) rfl rfl rfl hw6 hG0 g20 trivial (hx_ti (G := G) (lo := 0) (hi := 16) (by omega) (by omega)) (fun w27 fs28 g29 e30 o31 n32 hw33 n34 => ?_)
          have hs35 := ty_same_tr hs8 (n34 fz (hx_ok hfz (by decide)))
          have hf36 := hF _ _ (n34 pr_ (by decide)) hf7
          refine ax_go 1 (y := (145, [some (.ref o), some (.int arr), some (.int sta), some (.int g)], [.ref o], w27, 0, 0)) rfl trivial ?_
          have q37 := hx_oq hw33 g29 hG0 (s := 54) rfl
          obtain ⟨p38, e39, hG40⟩ := hx_fr (k := 7) (s := 13) q37 rfl
          refine hx_gf (l := 148) rfl rfl rfl g29 e39 ?_
          refine hx_k (l := 149) (m := 0) rfl rfl (by decide) (fun z41 h42 => ?_)
          refine ax_go 1 (y := (150, [some (.ref o), some (.int arr), some (.int sta), some (.int g)], [.int z41, .ref p38, .int z41, .ref p38], w27, 0, 0)) rfl trivial ?_
          obtain ⟨f43, g44, r45⟩ := hx_row hw33 hG40 (s := 13) (kd := 0) (n := 4) rfl (by decide)
          refine hx_il (l := 151) rfl rfl g44 (by omega) (by omega) (fun z46 h47 => ?_)
          refine hx_k (l := 152) (m := 1) rfl rfl (by decide) (fun z48 h49 => ?_)
          refine hx_add (l := 153) rfl rfl (fun z50 h51 => ?_)
          refine hx_is (s := 13) (l := 154) rfl rfl rfl hw33 hG40 g44 (by omega) (by omega) hx_sg0 (fun w52 f53 g54 e55 o56 n57 hw58 n59 => ?_)
          have hs60 := ty_same_tr hs35 (n59 fz (hx_ok hfz (by decide)))
          have hf61 := hF _ _ (n59 pr_ (by decide)) hf36
          refine ax_go 1 (y := (155, [some (.ref o), some (.int arr), some (.int sta), some (.int g)], [.int arr], w52, 0, 0)) rfl trivial ?_
          exact ax_ret rfl rfl trivial ⟨some (.int arr), _, rfl, hw58, hf61, hs60, (ck_top_ok (G := G) arr), trivial⟩
        · -- 19
          refine ax_go 1 (y := (20, [some (.ref o), some (.int arr), some (.int sta), some (.int g)], [.int g], w1, 0, 0)) rfl trivial ?_
          refine hx_k (l := 22) (m := 16) rfl rfl (by decide) (fun z62 h63 => ?_)
          refine hx_ic_ge (l := 25) rfl rfl (fun h64 => ?_) (fun h64 => ?_)
          · -- 139
            refine ax_go 2 (y := (141, [some (.ref o), some (.int arr), some (.int sta), some (.int g)], [.int sta, .ref o], w1, 0, 0)) rfl trivial ?_
            refine hx_pf (q := (0, 0, 0, 0, 0, 16)) (s := 54) (l := 144) (v := .int sta) rfl rfl rfl (by decide) rfl rfl rfl hw6 hG0 g20 trivial (hx_ti (G := G) (lo := 0) (hi := 16) (by omega) (by omega)) (fun w65 fs66 g67 e68 o69 n70 hw71 n72 => ?_)
            have hs73 := ty_same_tr hs8 (n72 fz (hx_ok hfz (by decide)))
            have hf74 := hF _ _ (n72 pr_ (by decide)) hf7
            refine ax_go 1 (y := (145, [some (.ref o), some (.int arr), some (.int sta), some (.int g)], [.ref o], w65, 0, 0)) rfl trivial ?_
            have q75 := hx_oq hw71 g67 hG0 (s := 54) rfl
            obtain ⟨p76, e77, hG78⟩ := hx_fr (k := 7) (s := 13) q75 rfl
            refine hx_gf (l := 148) rfl rfl rfl g67 e77 ?_
            refine hx_k (l := 149) (m := 0) rfl rfl (by decide) (fun z79 h80 => ?_)
            refine ax_go 1 (y := (150, [some (.ref o), some (.int arr), some (.int sta), some (.int g)], [.int z79, .ref p76, .int z79, .ref p76], w65, 0, 0)) rfl trivial ?_
            obtain ⟨f81, g82, r83⟩ := hx_row hw71 hG78 (s := 13) (kd := 0) (n := 4) rfl (by decide)
            refine hx_il (l := 151) rfl rfl g82 (by omega) (by omega) (fun z84 h85 => ?_)
            refine hx_k (l := 152) (m := 1) rfl rfl (by decide) (fun z86 h87 => ?_)
            refine hx_add (l := 153) rfl rfl (fun z88 h89 => ?_)
            refine hx_is (s := 13) (l := 154) rfl rfl rfl hw71 hG78 g82 (by omega) (by omega) hx_sg0 (fun w90 f91 g92 e93 o94 n95 hw96 n97 => ?_)
            have hs98 := ty_same_tr hs73 (n97 fz (hx_ok hfz (by decide)))
            have hf99 := hF _ _ (n97 pr_ (by decide)) hf74
            refine ax_go 1 (y := (155, [some (.ref o), some (.int arr), some (.int sta), some (.int g)], [.int arr], w90, 0, 0)) rfl trivial ?_
            exact ax_ret rfl rfl trivial ⟨some (.int arr), _, rfl, hw96, hf99, hs98, (ck_top_ok (G := G) arr), trivial⟩
          · -- 25
            refine ax_go 1 (y := (26, [some (.ref o), some (.int arr), some (.int sta), some (.int g)], [.ref o], w1, 0, 0)) rfl trivial ?_
            obtain ⟨p100, e101, hG102⟩ := hx_fr (k := 6) (s := 12) q21 rfl
            refine hx_gf (l := 29) rfl rfl rfl g20 e101 ?_
            refine ax_go 2 (y := (31, [some (.ref o), some (.int arr), some (.int sta), some (.int g)], [.int g, .ref p100, .int g, .ref p100], w1, 0, 0)) rfl trivial ?_
            obtain ⟨f103, g104, r105⟩ := hx_row hw6 hG102 (s := 12) (kd := 0) (n := 16) rfl (by decide)
            refine hx_il (l := 32) rfl rfl g104 (by omega) (by omega) (fun z106 h107 => ?_)
            refine hx_k (l := 33) (m := 1) rfl rfl (by decide) (fun z108 h109 => ?_)
            refine hx_sub (l := 34) rfl rfl (fun z110 h111 => ?_)
            refine hx_is (s := 12) (l := 35) rfl rfl rfl hw6 hG102 g104 (by omega) (by omega) hx_sg0 (fun w112 f113 g114 e115 o116 n117 hw118 n119 => ?_)
            have hs120 := ty_same_tr hs8 (n119 fz (hx_ok hfz (by decide)))
            have hf121 := hF _ _ (n119 pr_ (by decide)) hf7
            refine ax_go 1 (y := (36, [some (.ref o), some (.int arr), some (.int sta), some (.int g)], [.ref o], w112, 0, 0)) rfl trivial ?_
            refine hx_gf (l := 39) rfl rfl rfl ((n117 _ (hx_ne hG0 hG102 (by decide))).trans g20) e101 ?_
            refine ax_go 1 (y := (40, [some (.ref o), some (.int arr), some (.int sta), some (.int g)], [.int g, .ref p100], w112, 0, 0)) rfl trivial ?_
            have r122 := hx_rq hw118 g114 hG102 (s := 12) rfl
            refine hx_il (l := 41) rfl rfl g114 (by omega) (by omega) (fun z123 h124 => ?_)
            refine hx_if_le (l := 44) rfl rfl (fun h125 => ?_) (fun h125 => ?_)
            · -- 86
              refine ax_go 2 (y := (88, [some (.ref o), some (.int arr), some (.int sta), some (.int g)], [.ref o, .int arr], w112, 0, 0)) rfl trivial ?_
              obtain ⟨p126, e127, hG128⟩ := hx_fr (k := 5) (s := 12) q21 rfl
              refine hx_gf (l := 91) rfl rfl rfl ((n117 _ (hx_ne hG0 hG102 (by decide))).trans g20) e127 ?_
              refine ax_go 1 (y := (92, [some (.ref o), some (.int arr), some (.int sta), some (.int g)], [.int g, .ref p126, .int arr], w112, 0, 0)) rfl trivial ?_
              obtain ⟨f129, g130, r131⟩ := hx_row hw118 hG128 (s := 12) (kd := 0) (n := 16) rfl (by decide)
              refine hx_il (l := 93) rfl rfl g130 (by omega) (by omega) (fun z132 h133 => ?_)
              refine hx_add (l := 94) rfl rfl (fun z134 h135 => ?_)
              refine ax_go 4 (y := (98, [some (.ref o), some (.int z134), some (.int sta), some (.int g)], [.ref o, .ref o, .ref o], w112, 0, 0)) rfl trivial ?_
              obtain ⟨p136, e137, hG138⟩ := hx_fr (k := 4) (s := 15) q21 rfl
              refine hx_gf (l := 101) rfl rfl rfl ((n117 _ (hx_ne hG0 hG102 (by decide))).trans g20) e137 ?_
              refine ax_go 1 (y := (102, [some (.ref o), some (.int z134), some (.int sta), some (.int g)], [.int g, .ref p136, .ref o, .ref o], w112, 0, 0)) rfl trivial ?_
              obtain ⟨f139, g140, r141⟩ := hx_row hw118 hG138 (s := 15) (kd := 0) (n := 16) rfl (by decide)
              refine hx_il (l := 103) rfl rfl g140 (by omega) (by omega) (fun z142 h143 => ?_)
              have b144 := r141 (0, 16, 1, 0, 0, 9) (by decide) g.toInt.toNat (show (0 : Nat) ≤ _ by omega) (show _ < (16 : Nat) by omega) (show _ % (1 : Nat) = 0 by omega)
              rw [← h143] at b144
              replace b144 : (0 : Int) ≤ z142.toInt ∧ z142.toInt ≤ 9 := b144
              refine hx_ci (l := 106) (as := [.ref o, .int z142]) rfl rfl (hx_iv (j := 5) (n := 1) (o := o) (r := [.ref o]) rfl rfl ((n117 _ (hx_ne hG0 hG102 (by decide))).trans g20) rfl) (h_X1_has1 (fz := fz) hF (fun q hq => (by decide +kernel : ∀ q ∈ fb_X1_passDay0, q ∈ fb_X1_has1) q (hfz q hq)) (d + 1)) hw118 hf121 ⟨(hx_tr (G := G) (s := 54) (b := 0) hG0 (by decide)), (ck_top_ok (G := G) z142), trivial⟩ (fun w145 z150 hw146 hf147 m148 a151 b152 u153 => ?_)
              have u154 : z150.toInt ≠ 0 → (0 : Int) ≤ z142.toInt ∧ z142.toInt ≤ 9 := fun hz => hx_wit (a := 1) (wf := 10000000001009) u153 rfl hz
              have hs149 := ty_same_tr hs120 m148
              refine hx_if_eq (l := 109) rfl rfl (fun h155 => ?_) (fun h155 => ?_)
              · -- 123
                refine hx_k (l := 124) (m := (-1)) rfl rfl (by decide) (fun z156 h157 => ?_)
                refine ax_go 1 (y := (125, [some (.ref o), some (.int z134), some (.int sta), some (.int g)], [.ref o, .int z156, .ref o], w145, 0, 0)) rfl trivial ?_
                obtain ⟨fs158, g159, -, q160⟩ := hx_obj hw146 hG0 (s := 54) rfl (by decide)
                obtain ⟨p161, e162, hG163⟩ := hx_fr (k := 5) (s := 12) q160 rfl
                refine hx_gf (l := 128) rfl rfl rfl g159 e162 ?_
                refine ax_go 1 (y := (129, [some (.ref o), some (.int z134), some (.int sta), some (.int g)], [.int g, .ref p161, .int z156, .ref o], w145, 0, 0)) rfl trivial ?_
                obtain ⟨f164, g165, r166⟩ := hx_row hw146 hG163 (s := 12) (kd := 0) (n := 16) rfl (by decide)
                refine hx_il (l := 130) rfl rfl g165 (by omega) (by omega) (fun z167 h168 => ?_)
                refine hx_c0 (l := 133) (as := [.ref o, .int z156, .int z167]) rfl rfl (hx_iv (j := 12) (n := 2) (o := o) (r := []) rfl rfl g159 rfl) (h_X1_arrive0 (fz := fz) hF (fun q hq => (by decide +kernel : ∀ q ∈ fb_X1_passDay0, q ∈ fb_X1_arrive0) q (hfz q hq)) (d + 0)) hw146 hf147 ⟨(hx_tr (G := G) (s := 54) (b := 0) hG0 (by decide)), (ck_top_ok (G := G) z156), (ck_top_ok (G := G) z167), trivial⟩ (fun w169 hw170 hf171 m172 => ?_)
                have hs173 := ty_same_tr hs149 m172
                exact ct133 w169 z134 sta g hw170 hf171 hs173 (by omega) (by omega) (by omega) (by omega)
              · -- 109
                refine ax_go 1 (y := (110, [some (.ref o), some (.int z134), some (.int sta), some (.int g)], [.ref o, .ref o], w145, 0, 0)) rfl trivial ?_
                obtain ⟨fs178, g179, -, q180⟩ := hx_obj hw146 hG0 (s := 54) rfl (by decide)
                obtain ⟨p181, e182, hG183⟩ := hx_fr (k := 0) (s := 11) q180 rfl
                refine hx_gf (l := 113) rfl rfl rfl g179 e182 ?_
                refine ax_go 1 (y := (114, [some (.ref o), some (.int z134), some (.int sta), some (.int g)], [.ref o, .ref p181, .ref o], w145, 0, 0)) rfl trivial ?_
                obtain ⟨p184, e185, hG186⟩ := hx_fr (k := 4) (s := 15) q180 rfl
                refine hx_gf (l := 117) rfl rfl rfl g179 e185 ?_
                refine ax_go 1 (y := (118, [some (.ref o), some (.int z134), some (.int sta), some (.int g)], [.int g, .ref p184, .ref p181, .ref o], w145, 0, 0)) rfl trivial ?_
                obtain ⟨f187, g188, r189⟩ := hx_row hw146 hG186 (s := 15) (kd := 0) (n := 16) rfl (by decide)
                refine hx_il (l := 119) rfl rfl g188 (by omega) (by omega) (fun z190 h191 => ?_)
                have b192 := r189 (0, 16, 1, 0, 0, 9) (by decide) g.toInt.toNat (show (0 : Nat) ≤ _ by omega) (show _ < (16 : Nat) by omega) (show _ % (1 : Nat) = 0 by omega)
                rw [← h191] at b192
                replace b192 : (0 : Int) ≤ z190.toInt ∧ z190.toInt ≤ 9 := b192
                obtain ⟨f193, g194, r195⟩ := hx_row hw146 hG183 (s := 11) (kd := 0) (n := 10) rfl (by decide)
                refine hx_il (l := 120) rfl rfl g194 (by omega) (by omega) (fun z196 h197 => ?_)
                refine ax_go 2 (y := (125, [some (.ref o), some (.int z134), some (.int sta), some (.int g)], [.ref o, .int z196, .ref o], w145, 0, 0)) rfl trivial ?_
                obtain ⟨p198, e199, hG200⟩ := hx_fr (k := 5) (s := 12) q180 rfl
                refine hx_gf (l := 128) rfl rfl rfl g179 e199 ?_
                refine ax_go 1 (y := (129, [some (.ref o), some (.int z134), some (.int sta), some (.int g)], [.int g, .ref p198, .int z196, .ref o], w145, 0, 0)) rfl trivial ?_
                obtain ⟨f201, g202, r203⟩ := hx_row hw146 hG200 (s := 12) (kd := 0) (n := 16) rfl (by decide)
                refine hx_il (l := 130) rfl rfl g202 (by omega) (by omega) (fun z204 h205 => ?_)
                refine hx_c0 (l := 133) (as := [.ref o, .int z196, .int z204]) rfl rfl (hx_iv (j := 12) (n := 2) (o := o) (r := []) rfl rfl g179 rfl) (h_X1_arrive0 (fz := fz) hF (fun q hq => (by decide +kernel : ∀ q ∈ fb_X1_passDay0, q ∈ fb_X1_arrive0) q (hfz q hq)) (d + 0)) hw146 hf147 ⟨(hx_tr (G := G) (s := 54) (b := 0) hG0 (by decide)), (ck_top_ok (G := G) z196), (ck_top_ok (G := G) z204), trivial⟩ (fun w206 hw207 hf208 m209 => ?_)
                have hs210 := ty_same_tr hs149 m209
                exact ct133 w206 z134 sta g hw207 hf208 hs210 (by omega) (by omega) (by omega) (by omega)
            · -- 44
              refine ax_go 1 (y := (45, [some (.ref o), some (.int arr), some (.int sta), some (.int g)], [.ref o], w112, 0, 0)) rfl trivial ?_
              obtain ⟨p215, e216, hG217⟩ := hx_fr (k := 4) (s := 15) q21 rfl
              refine hx_gf (l := 48) rfl rfl rfl ((n117 _ (hx_ne hG0 hG102 (by decide))).trans g20) e216 ?_
              refine ax_go 2 (y := (50, [some (.ref o), some (.int arr), some (.int sta), some (.int g)], [.ref o, .int sta, .ref p215], w112, 0, 0)) rfl trivial ?_
              refine hx_gf (l := 53) rfl rfl rfl ((n117 _ (hx_ne hG0 hG102 (by decide))).trans g20) e216 ?_
              refine ax_go 1 (y := (54, [some (.ref o), some (.int arr), some (.int sta), some (.int g)], [.int g, .ref p215, .int sta, .ref p215], w112, 0, 0)) rfl trivial ?_
              obtain ⟨f218, g219, r220⟩ := hx_row hw118 hG217 (s := 15) (kd := 0) (n := 16) rfl (by decide)
              refine hx_il (l := 55) rfl rfl g219 (by omega) (by omega) (fun z221 h222 => ?_)
              have b223 := r220 (0, 16, 1, 0, 0, 9) (by decide) g.toInt.toNat (show (0 : Nat) ≤ _ by omega) (show _ < (16 : Nat) by omega) (show _ % (1 : Nat) = 0 by omega)
              rw [← h222] at b223
              replace b223 : (0 : Int) ≤ z221.toInt ∧ z221.toInt ≤ 9 := b223
              refine hx_is (s := 15) (l := 56) rfl rfl rfl hw118 hG217 g219 (by omega) (by omega) (hx_sg1 (fun _ _ _ => ⟨by omega, by omega⟩) hx_sg0) (fun w224 f225 g226 e227 o228 n229 hw230 n231 => ?_)
              have hs232 := ty_same_tr hs120 (n231 fz (hx_ok hfz (by decide)))
              have hf233 := hF _ _ (n231 pr_ (by decide)) hf121
              refine ax_go 1 (y := (57, [some (.ref o), some (.int arr), some (.int sta), some (.int g)], [.ref o], w224, 0, 0)) rfl trivial ?_
              obtain ⟨p234, e235, hG236⟩ := hx_fr (k := 5) (s := 12) q21 rfl
              refine hx_gf (l := 60) rfl rfl rfl ((n229 _ (hx_ne hG0 hG217 (by decide))).trans ((n117 _ (hx_ne hG0 hG102 (by decide))).trans g20)) e235 ?_
              refine ax_go 2 (y := (62, [some (.ref o), some (.int arr), some (.int sta), some (.int g)], [.ref o, .int sta, .ref p234], w224, 0, 0)) rfl trivial ?_
              refine hx_gf (l := 65) rfl rfl rfl ((n229 _ (hx_ne hG0 hG217 (by decide))).trans ((n117 _ (hx_ne hG0 hG102 (by decide))).trans g20)) e235 ?_
              refine ax_go 1 (y := (66, [some (.ref o), some (.int arr), some (.int sta), some (.int g)], [.int g, .ref p234, .int sta, .ref p234], w224, 0, 0)) rfl trivial ?_
              obtain ⟨f237, g238, r239⟩ := hx_row hw230 hG236 (s := 12) (kd := 0) (n := 16) rfl (by decide)
              refine hx_il (l := 67) rfl rfl g238 (by omega) (by omega) (fun z240 h241 => ?_)
              refine hx_is (s := 12) (l := 68) rfl rfl rfl hw230 hG236 g238 (by omega) (by omega) hx_sg0 (fun w242 f243 g244 e245 o246 n247 hw248 n249 => ?_)
              have hs250 := ty_same_tr hs232 (n249 fz (hx_ok hfz (by decide)))
              have hf251 := hF _ _ (n249 pr_ (by decide)) hf233
              refine ax_go 1 (y := (69, [some (.ref o), some (.int arr), some (.int sta), some (.int g)], [.ref o], w242, 0, 0)) rfl trivial ?_
              refine hx_gf (l := 72) rfl rfl rfl ((n247 _ (hx_ne hG0 hG236 (by decide))).trans ((n229 _ (hx_ne hG0 hG217 (by decide))).trans ((n117 _ (hx_ne hG0 hG102 (by decide))).trans g20))) e101 ?_
              refine ax_go 2 (y := (74, [some (.ref o), some (.int arr), some (.int sta), some (.int g)], [.ref o, .int sta, .ref p100], w242, 0, 0)) rfl trivial ?_
              refine hx_gf (l := 77) rfl rfl rfl ((n247 _ (hx_ne hG0 hG236 (by decide))).trans ((n229 _ (hx_ne hG0 hG217 (by decide))).trans ((n117 _ (hx_ne hG0 hG102 (by decide))).trans g20))) e101 ?_
              refine ax_go 1 (y := (78, [some (.ref o), some (.int arr), some (.int sta), some (.int g)], [.int g, .ref p100, .int sta, .ref p100], w242, 0, 0)) rfl trivial ?_
              obtain ⟨f252, g253, r254⟩ := hx_row hw248 hG102 (s := 12) (kd := 0) (n := 16) rfl (by decide)
              refine hx_il (l := 79) rfl rfl g253 (by omega) (by omega) (fun z255 h256 => ?_)
              refine hx_is (s := 12) (l := 80) rfl rfl rfl hw248 hG102 g253 (by omega) (by omega) hx_sg0 (fun w257 f258 g259 e260 o261 n262 hw263 n264 => ?_)
              have hs265 := ty_same_tr hs250 (n264 fz (hx_ok hfz (by decide)))
              have hf266 := hF _ _ (n264 pr_ (by decide)) hf251
              refine hx_iinc (x := sta) (n := 1) (l := 83) rfl rfl rfl (Nat.le_of_ble_eq_true rfl) (by omega) (by omega) (by decide) (fun z267 h268 => ?_)
              change ab_wp ro (ab_Ev ro ab_codes (d + 2)) 1 false (some .int) ab_k_X1_passDay (fun o_1 => ∃ v w1, o_1 = (v, w1, 0, 0) ∧ ty_w sp_ G w1 ∧ F w1 ∧ ty_same G fz w w1 ∧ ck_res G (some (0, (-2147483648), 2147483647)) v ∧ ck_wit 0 0 [.ref o] v) (83, [some (.ref o), some (.int arr), some (.int z267), some (.int g)], [], w257, 0, 0)
              refine ax_go 1 (y := (133, [some (.ref o), some (.int arr), some (.int z267), some (.int g)], [], w257, 0, 0)) rfl trivial ?_
              exact ct133 w257 arr z267 g hw263 hf266 hs265 (by omega) (by omega) (by omega) (by omega)
    change ab_wp ro (ab_Ev ro ab_codes (d + 2)) 1 false (some .int) ab_k_X1_passDay (fun o_1 => ∃ v w1, o_1 = (v, w1, 0, 0) ∧ ty_w sp_ G w1 ∧ F w1 ∧ ty_same G fz w w1 ∧ ck_res G (some (0, (-2147483648), 2147483647)) v ∧ ck_wit 0 0 [.ref o] v) (0, [some (.ref o), none, none, none], [], w, 0, 0)
    refine hx_k (l := 1) (m := 0) rfl rfl (by decide) (fun z269 h270 => ?_)
    refine ax_go 1 (y := (2, [some (.ref o), some (.int z269), none, none], [], w, 0, 0)) rfl trivial ?_
    refine hx_k (l := 3) (m := 0) rfl rfl (by decide) (fun z271 h272 => ?_)
    refine ax_go 2 (y := (5, [some (.ref o), some (.int z269), some (.int z271), none], [.ref o], w, 0, 0)) rfl trivial ?_
    refine hx_k (l := 6) (m := 0) rfl rfl (by decide) (fun z273 h274 => ?_)
    obtain ⟨fs275, g276, -, q277⟩ := hx_obj hw hG0 (s := 54) rfl (by decide)
    refine hx_pf (q := (0, 0, 0, 0, (-2147483648), 2147483647)) (s := 54) (l := 9) (v := .int z273) rfl rfl rfl (by decide) rfl rfl rfl hw hG0 g276 trivial (ck_top_ok (G := G) z273) (fun w278 fs279 g280 e281 o282 n283 hw284 n285 => ?_)
    have hs286 := ty_same_tr (ty_same_rf w) (n285 fz (hx_ok hfz (by decide)))
    have hf287 := hF _ _ (n285 pr_ (by decide)) hf
    refine hx_k (l := 10) (m := 0) rfl rfl (by decide) (fun z288 h289 => ?_)
    refine ax_go 1 (y := (11, [some (.ref o), some (.int z269), some (.int z271), some (.int z288)], [], w278, 0, 0)) rfl trivial ?_
    exact ct11 _ w278 z269 z271 z288 hw284 hf287 hs286 (by omega) (by omega) (by omega) (by omega) (Nat.lt_succ_self _)
def fb_X1_passDay1 : List (Nat × Nat) := [(8, 3), (8, 5), (19, 999), (32, 999), (33, 999), (34, 999), (35, 999), (44, 999), (45, 999), (1, 0), (18, 999), (2, 11), (2, 14), (1, 15), (54, 11), (4, 2), (7, 9), (30, 13), (30, 34), (30, 2), (30, 22), (30, 23), (30, 24), (30, 25), (46, 999), (47, 999), (30, 35), (30, 36), (7, 0), (24, 999), (37, 999), (30, 4), (30, 5), (30, 6), (30, 8), (30, 9), (30, 10), (30, 11), (30, 14), (30, 15), (30, 16), (30, 17), (30, 18), (30, 19), (30, 20), (30, 21), (39, 999), (40, 999), (41, 999), (30, 30), (30, 42), (30, 43), (30, 44), (1, 1), (1, 3), (1, 10), (1, 13), (8, 0), (30, 49), (2, 15), (8, 1)]
set_option maxHeartbeats 8000000 in
theorem h_X1_passDay1 {ro : ab_R} {G : Nat → Nat} {fz : List (Nat × Nat)} {F : ab_W → Prop} (hF : ∀ w w', ty_same G pr_ w w' → F w → F w') (hfz : ∀ q ∈ fz, q ∈ fb_X1_passDay1) (d : Nat) : ck_ct ro sp_ G F fz (ab_Ev ro ab_codes (d + 3)) 13 [(2, 2, 0)] (some (0, (-2147483648), 2147483647)) 0 0 := by
  refine ck_hand (d := d + 2) (by decide) (fun as w hw hf has => ?_)
  match as, has with
  | [v0], ⟨h0, _⟩ =>
    obtain ⟨o, rfl, _, hG0⟩ := ty_refn h0 rfl rfl
    replace hG0 : G o = 2 := hG0
    refine ⟨rfl, ?_⟩
    have ct11 : ∀ (nq : Nat) (w1 : ab_W) (arr : Int32) (sta : Int32) (g : Int32), ty_w sp_ G w1 → F w1 → ty_same G fz w w1 → (0 ≤ sta.toInt) → (sta.toInt ≤ g.toInt) → (0 ≤ g.toInt) → (g.toInt ≤ 16) → (17 - g.toInt).toNat < nq → ab_wp ro (ab_Ev ro ab_codes (d + 2)) 1 false (some .int) ab_k_X1_passDay (fun o_1 => ∃ v w1, o_1 = (v, w1, 0, 0) ∧ ty_w sp_ G w1 ∧ F w1 ∧ ty_same G fz w w1 ∧ ck_res G (some (0, (-2147483648), 2147483647)) v ∧ ck_wit 0 0 [.ref o] v) (11, [some (.ref o), some (.int arr), some (.int sta), some (.int g)], [], w1, 0, 0) := by
      intro nq
      induction nq with
      | zero => intro w1 arr sta g hw6 hf7 hs8 i2 i3 i4 i5 hm; exact absurd hm (Nat.not_lt_zero _)
      | succ nq ih11 =>
        intro w1 arr sta g hw6 hf7 hs8 i2 i3 i4 i5 hm11
        have ct133 : ∀ (w9 : ab_W) (arr2 : Int32) (sta2 : Int32) (g2 : Int32), ty_w sp_ G w9 → F w9 → ty_same G fz w w9 → (0 ≤ sta2.toInt) → (sta2.toInt ≤ g2.toInt + 1) → (g.toInt = g2.toInt) → (g2.toInt < 16) → ab_wp ro (ab_Ev ro ab_codes (d + 2)) 1 false (some .int) ab_k_X1_passDay (fun o_1 => ∃ v w1, o_1 = (v, w1, 0, 0) ∧ ty_w sp_ G w1 ∧ F w1 ∧ ty_same G fz w w1 ∧ ck_res G (some (0, (-2147483648), 2147483647)) v ∧ ck_wit 0 0 [.ref o] v) (133, [some (.ref o), some (.int arr2), some (.int sta2), some (.int g2)], [], w9, 0, 0) := by
          intro w9 arr2 sta2 g2 hw14 hf15 hs16 i10 i11 i12 i13
          refine hx_iinc (x := g2) (n := 1) (l := 136) rfl rfl rfl (Nat.le_of_ble_eq_true rfl) (by omega) (by omega) (by decide) (fun z17 h18 => ?_)
          change ab_wp ro (ab_Ev ro ab_codes (d + 2)) 1 false (some .int) ab_k_X1_passDay (fun o_1 => ∃ v w1, o_1 = (v, w1, 0, 0) ∧ ty_w sp_ G w1 ∧ F w1 ∧ ty_same G fz w w1 ∧ ck_res G (some (0, (-2147483648), 2147483647)) v ∧ ck_wit 0 0 [.ref o] v) (136, [some (.ref o), some (.int arr2), some (.int sta2), some (.int z17)], [], w9, 0, 0)
          refine ax_go 1 (y := (11, [some (.ref o), some (.int arr2), some (.int sta2), some (.int z17)], [], w9, 0, 0)) rfl trivial ?_
          exact ih11 w9 arr2 sta2 z17 hw14 hf15 hs16 (by omega) (by omega) (by omega) (by omega) (by omega)
        refine ax_go 2 (y := (13, [some (.ref o), some (.int arr), some (.int sta), some (.int g)], [.ref o, .int g], w1, 0, 0)) rfl trivial ?_
        obtain ⟨fs19, g20, -, q21⟩ := hx_obj hw6 hG0 (s := 2) rfl (by decide)
        obtain ⟨x22, e23, a24, b25⟩ := hx_fi (k := 12) (lo := 0) (hi := 16) q21 rfl
        refine hx_gf (l := 16) rfl rfl rfl g20 e23 ?_
        refine hx_ic_ge (l := 19) rfl rfl (fun h26 => ?_) (fun h26 => ?_)
        · -- 139
          refine ax_go 2 (y := (141, [some (.ref o), some (.int arr), some (.int sta), some (.int g)], [.int sta, .ref o], w1, 0, 0)) rfl trivial ?_
          refine hx_pf (q := (0, 0, 0, 0, 0, 16)) (s := 2) (l := 144) (v := .int sta) rfl rfl rfl (by decide) rfl rfl rfl hw6 hG0 g20 trivial (hx_ti (G := G) (lo := 0) (hi := 16) (by omega) (by omega)) (fun w27 fs28 g29 e30 o31 n32 hw33 n34 => ?_)
          have hs35 := ty_same_tr hs8 (n34 fz (hx_ok hfz (by decide)))
          have hf36 := hF _ _ (n34 pr_ (by decide)) hf7
          refine ax_go 1 (y := (145, [some (.ref o), some (.int arr), some (.int sta), some (.int g)], [.ref o], w27, 0, 0)) rfl trivial ?_
          have q37 := hx_oq hw33 g29 hG0 (s := 2) rfl
          obtain ⟨p38, e39, hG40⟩ := hx_fr (k := 7) (s := 13) q37 rfl
          refine hx_gf (l := 148) rfl rfl rfl g29 e39 ?_
          refine hx_k (l := 149) (m := 0) rfl rfl (by decide) (fun z41 h42 => ?_)
          refine ax_go 1 (y := (150, [some (.ref o), some (.int arr), some (.int sta), some (.int g)], [.int z41, .ref p38, .int z41, .ref p38], w27, 0, 0)) rfl trivial ?_
          obtain ⟨f43, g44, r45⟩ := hx_row hw33 hG40 (s := 13) (kd := 0) (n := 4) rfl (by decide)
          refine hx_il (l := 151) rfl rfl g44 (by omega) (by omega) (fun z46 h47 => ?_)
          refine hx_k (l := 152) (m := 1) rfl rfl (by decide) (fun z48 h49 => ?_)
          refine hx_add (l := 153) rfl rfl (fun z50 h51 => ?_)
          refine hx_is (s := 13) (l := 154) rfl rfl rfl hw33 hG40 g44 (by omega) (by omega) hx_sg0 (fun w52 f53 g54 e55 o56 n57 hw58 n59 => ?_)
          have hs60 := ty_same_tr hs35 (n59 fz (hx_ok hfz (by decide)))
          have hf61 := hF _ _ (n59 pr_ (by decide)) hf36
          refine ax_go 1 (y := (155, [some (.ref o), some (.int arr), some (.int sta), some (.int g)], [.int arr], w52, 0, 0)) rfl trivial ?_
          exact ax_ret rfl rfl trivial ⟨some (.int arr), _, rfl, hw58, hf61, hs60, (ck_top_ok (G := G) arr), trivial⟩
        · -- 19
          refine ax_go 1 (y := (20, [some (.ref o), some (.int arr), some (.int sta), some (.int g)], [.int g], w1, 0, 0)) rfl trivial ?_
          refine hx_k (l := 22) (m := 16) rfl rfl (by decide) (fun z62 h63 => ?_)
          refine hx_ic_ge (l := 25) rfl rfl (fun h64 => ?_) (fun h64 => ?_)
          · -- 139
            refine ax_go 2 (y := (141, [some (.ref o), some (.int arr), some (.int sta), some (.int g)], [.int sta, .ref o], w1, 0, 0)) rfl trivial ?_
            refine hx_pf (q := (0, 0, 0, 0, 0, 16)) (s := 2) (l := 144) (v := .int sta) rfl rfl rfl (by decide) rfl rfl rfl hw6 hG0 g20 trivial (hx_ti (G := G) (lo := 0) (hi := 16) (by omega) (by omega)) (fun w65 fs66 g67 e68 o69 n70 hw71 n72 => ?_)
            have hs73 := ty_same_tr hs8 (n72 fz (hx_ok hfz (by decide)))
            have hf74 := hF _ _ (n72 pr_ (by decide)) hf7
            refine ax_go 1 (y := (145, [some (.ref o), some (.int arr), some (.int sta), some (.int g)], [.ref o], w65, 0, 0)) rfl trivial ?_
            have q75 := hx_oq hw71 g67 hG0 (s := 2) rfl
            obtain ⟨p76, e77, hG78⟩ := hx_fr (k := 7) (s := 13) q75 rfl
            refine hx_gf (l := 148) rfl rfl rfl g67 e77 ?_
            refine hx_k (l := 149) (m := 0) rfl rfl (by decide) (fun z79 h80 => ?_)
            refine ax_go 1 (y := (150, [some (.ref o), some (.int arr), some (.int sta), some (.int g)], [.int z79, .ref p76, .int z79, .ref p76], w65, 0, 0)) rfl trivial ?_
            obtain ⟨f81, g82, r83⟩ := hx_row hw71 hG78 (s := 13) (kd := 0) (n := 4) rfl (by decide)
            refine hx_il (l := 151) rfl rfl g82 (by omega) (by omega) (fun z84 h85 => ?_)
            refine hx_k (l := 152) (m := 1) rfl rfl (by decide) (fun z86 h87 => ?_)
            refine hx_add (l := 153) rfl rfl (fun z88 h89 => ?_)
            refine hx_is (s := 13) (l := 154) rfl rfl rfl hw71 hG78 g82 (by omega) (by omega) hx_sg0 (fun w90 f91 g92 e93 o94 n95 hw96 n97 => ?_)
            have hs98 := ty_same_tr hs73 (n97 fz (hx_ok hfz (by decide)))
            have hf99 := hF _ _ (n97 pr_ (by decide)) hf74
            refine ax_go 1 (y := (155, [some (.ref o), some (.int arr), some (.int sta), some (.int g)], [.int arr], w90, 0, 0)) rfl trivial ?_
            exact ax_ret rfl rfl trivial ⟨some (.int arr), _, rfl, hw96, hf99, hs98, (ck_top_ok (G := G) arr), trivial⟩
          · -- 25
            refine ax_go 1 (y := (26, [some (.ref o), some (.int arr), some (.int sta), some (.int g)], [.ref o], w1, 0, 0)) rfl trivial ?_
            obtain ⟨p100, e101, hG102⟩ := hx_fr (k := 6) (s := 12) q21 rfl
            refine hx_gf (l := 29) rfl rfl rfl g20 e101 ?_
            refine ax_go 2 (y := (31, [some (.ref o), some (.int arr), some (.int sta), some (.int g)], [.int g, .ref p100, .int g, .ref p100], w1, 0, 0)) rfl trivial ?_
            obtain ⟨f103, g104, r105⟩ := hx_row hw6 hG102 (s := 12) (kd := 0) (n := 16) rfl (by decide)
            refine hx_il (l := 32) rfl rfl g104 (by omega) (by omega) (fun z106 h107 => ?_)
            refine hx_k (l := 33) (m := 1) rfl rfl (by decide) (fun z108 h109 => ?_)
            refine hx_sub (l := 34) rfl rfl (fun z110 h111 => ?_)
            refine hx_is (s := 12) (l := 35) rfl rfl rfl hw6 hG102 g104 (by omega) (by omega) hx_sg0 (fun w112 f113 g114 e115 o116 n117 hw118 n119 => ?_)
            have hs120 := ty_same_tr hs8 (n119 fz (hx_ok hfz (by decide)))
            have hf121 := hF _ _ (n119 pr_ (by decide)) hf7
            refine ax_go 1 (y := (36, [some (.ref o), some (.int arr), some (.int sta), some (.int g)], [.ref o], w112, 0, 0)) rfl trivial ?_
            refine hx_gf (l := 39) rfl rfl rfl ((n117 _ (hx_ne hG0 hG102 (by decide))).trans g20) e101 ?_
            refine ax_go 1 (y := (40, [some (.ref o), some (.int arr), some (.int sta), some (.int g)], [.int g, .ref p100], w112, 0, 0)) rfl trivial ?_
            have r122 := hx_rq hw118 g114 hG102 (s := 12) rfl
            refine hx_il (l := 41) rfl rfl g114 (by omega) (by omega) (fun z123 h124 => ?_)
            refine hx_if_le (l := 44) rfl rfl (fun h125 => ?_) (fun h125 => ?_)
            · -- 86
              refine ax_go 2 (y := (88, [some (.ref o), some (.int arr), some (.int sta), some (.int g)], [.ref o, .int arr], w112, 0, 0)) rfl trivial ?_
              obtain ⟨p126, e127, hG128⟩ := hx_fr (k := 5) (s := 12) q21 rfl
              refine hx_gf (l := 91) rfl rfl rfl ((n117 _ (hx_ne hG0 hG102 (by decide))).trans g20) e127 ?_
              refine ax_go 1 (y := (92, [some (.ref o), some (.int arr), some (.int sta), some (.int g)], [.int g, .ref p126, .int arr], w112, 0, 0)) rfl trivial ?_
              obtain ⟨f129, g130, r131⟩ := hx_row hw118 hG128 (s := 12) (kd := 0) (n := 16) rfl (by decide)
              refine hx_il (l := 93) rfl rfl g130 (by omega) (by omega) (fun z132 h133 => ?_)
              refine hx_add (l := 94) rfl rfl (fun z134 h135 => ?_)
              refine ax_go 4 (y := (98, [some (.ref o), some (.int z134), some (.int sta), some (.int g)], [.ref o, .ref o, .ref o], w112, 0, 0)) rfl trivial ?_
              obtain ⟨p136, e137, hG138⟩ := hx_fr (k := 4) (s := 15) q21 rfl
              refine hx_gf (l := 101) rfl rfl rfl ((n117 _ (hx_ne hG0 hG102 (by decide))).trans g20) e137 ?_
              refine ax_go 1 (y := (102, [some (.ref o), some (.int z134), some (.int sta), some (.int g)], [.int g, .ref p136, .ref o, .ref o], w112, 0, 0)) rfl trivial ?_
              obtain ⟨f139, g140, r141⟩ := hx_row hw118 hG138 (s := 15) (kd := 0) (n := 16) rfl (by decide)
              refine hx_il (l := 103) rfl rfl g140 (by omega) (by omega) (fun z142 h143 => ?_)
              have b144 := r141 (0, 16, 1, 0, 0, 9) (by decide) g.toInt.toNat (show (0 : Nat) ≤ _ by omega) (show _ < (16 : Nat) by omega) (show _ % (1 : Nat) = 0 by omega)
              rw [← h143] at b144
              replace b144 : (0 : Int) ≤ z142.toInt ∧ z142.toInt ≤ 9 := b144
              refine hx_ci (l := 106) (as := [.ref o, .int z142]) rfl rfl (hx_iv (j := 5) (n := 1) (o := o) (r := [.ref o]) rfl rfl ((n117 _ (hx_ne hG0 hG102 (by decide))).trans g20) rfl) (h_X1_has0 (fz := fz) hF (fun q hq => (by decide +kernel : ∀ q ∈ fb_X1_passDay1, q ∈ fb_X1_has0) q (hfz q hq)) (d + 1)) hw118 hf121 ⟨(hx_tr (G := G) (s := 2) (b := 0) hG0 (by decide)), (ck_top_ok (G := G) z142), trivial⟩ (fun w145 z150 hw146 hf147 m148 a151 b152 u153 => ?_)
              have u154 : z150.toInt ≠ 0 → (0 : Int) ≤ z142.toInt ∧ z142.toInt ≤ 9 := fun hz => hx_wit (a := 1) (wf := 10000000001009) u153 rfl hz
              have hs149 := ty_same_tr hs120 m148
              refine hx_if_eq (l := 109) rfl rfl (fun h155 => ?_) (fun h155 => ?_)
              · -- 123
                refine hx_k (l := 124) (m := (-1)) rfl rfl (by decide) (fun z156 h157 => ?_)
                refine ax_go 1 (y := (125, [some (.ref o), some (.int z134), some (.int sta), some (.int g)], [.ref o, .int z156, .ref o], w145, 0, 0)) rfl trivial ?_
                obtain ⟨fs158, g159, -, q160⟩ := hx_obj hw146 hG0 (s := 2) rfl (by decide)
                obtain ⟨p161, e162, hG163⟩ := hx_fr (k := 5) (s := 12) q160 rfl
                refine hx_gf (l := 128) rfl rfl rfl g159 e162 ?_
                refine ax_go 1 (y := (129, [some (.ref o), some (.int z134), some (.int sta), some (.int g)], [.int g, .ref p161, .int z156, .ref o], w145, 0, 0)) rfl trivial ?_
                obtain ⟨f164, g165, r166⟩ := hx_row hw146 hG163 (s := 12) (kd := 0) (n := 16) rfl (by decide)
                refine hx_il (l := 130) rfl rfl g165 (by omega) (by omega) (fun z167 h168 => ?_)
                refine hx_c0 (l := 133) (as := [.ref o, .int z156, .int z167]) rfl rfl (hx_iv (j := 12) (n := 2) (o := o) (r := []) rfl rfl g159 rfl) (h_X1_arrive1 (fz := fz) hF (fun q hq => (by decide +kernel : ∀ q ∈ fb_X1_passDay1, q ∈ fb_X1_arrive1) q (hfz q hq)) (d + 0)) hw146 hf147 ⟨(hx_tr (G := G) (s := 2) (b := 0) hG0 (by decide)), (ck_top_ok (G := G) z156), (ck_top_ok (G := G) z167), trivial⟩ (fun w169 hw170 hf171 m172 => ?_)
                have hs173 := ty_same_tr hs149 m172
                exact ct133 w169 z134 sta g hw170 hf171 hs173 (by omega) (by omega) (by omega) (by omega)
              · -- 109
                refine ax_go 1 (y := (110, [some (.ref o), some (.int z134), some (.int sta), some (.int g)], [.ref o, .ref o], w145, 0, 0)) rfl trivial ?_
                obtain ⟨fs178, g179, -, q180⟩ := hx_obj hw146 hG0 (s := 2) rfl (by decide)
                obtain ⟨p181, e182, hG183⟩ := hx_fr (k := 0) (s := 11) q180 rfl
                refine hx_gf (l := 113) rfl rfl rfl g179 e182 ?_
                refine ax_go 1 (y := (114, [some (.ref o), some (.int z134), some (.int sta), some (.int g)], [.ref o, .ref p181, .ref o], w145, 0, 0)) rfl trivial ?_
                obtain ⟨p184, e185, hG186⟩ := hx_fr (k := 4) (s := 15) q180 rfl
                refine hx_gf (l := 117) rfl rfl rfl g179 e185 ?_
                refine ax_go 1 (y := (118, [some (.ref o), some (.int z134), some (.int sta), some (.int g)], [.int g, .ref p184, .ref p181, .ref o], w145, 0, 0)) rfl trivial ?_
                obtain ⟨f187, g188, r189⟩ := hx_row hw146 hG186 (s := 15) (kd := 0) (n := 16) rfl (by decide)
                refine hx_il (l := 119) rfl rfl g188 (by omega) (by omega) (fun z190 h191 => ?_)
                have b192 := r189 (0, 16, 1, 0, 0, 9) (by decide) g.toInt.toNat (show (0 : Nat) ≤ _ by omega) (show _ < (16 : Nat) by omega) (show _ % (1 : Nat) = 0 by omega)
                rw [← h191] at b192
                replace b192 : (0 : Int) ≤ z190.toInt ∧ z190.toInt ≤ 9 := b192
                obtain ⟨f193, g194, r195⟩ := hx_row hw146 hG183 (s := 11) (kd := 0) (n := 10) rfl (by decide)
                refine hx_il (l := 120) rfl rfl g194 (by omega) (by omega) (fun z196 h197 => ?_)
                refine ax_go 2 (y := (125, [some (.ref o), some (.int z134), some (.int sta), some (.int g)], [.ref o, .int z196, .ref o], w145, 0, 0)) rfl trivial ?_
                obtain ⟨p198, e199, hG200⟩ := hx_fr (k := 5) (s := 12) q180 rfl
                refine hx_gf (l := 128) rfl rfl rfl g179 e199 ?_
                refine ax_go 1 (y := (129, [some (.ref o), some (.int z134), some (.int sta), some (.int g)], [.int g, .ref p198, .int z196, .ref o], w145, 0, 0)) rfl trivial ?_
                obtain ⟨f201, g202, r203⟩ := hx_row hw146 hG200 (s := 12) (kd := 0) (n := 16) rfl (by decide)
                refine hx_il (l := 130) rfl rfl g202 (by omega) (by omega) (fun z204 h205 => ?_)
                refine hx_c0 (l := 133) (as := [.ref o, .int z196, .int z204]) rfl rfl (hx_iv (j := 12) (n := 2) (o := o) (r := []) rfl rfl g179 rfl) (h_X1_arrive1 (fz := fz) hF (fun q hq => (by decide +kernel : ∀ q ∈ fb_X1_passDay1, q ∈ fb_X1_arrive1) q (hfz q hq)) (d + 0)) hw146 hf147 ⟨(hx_tr (G := G) (s := 2) (b := 0) hG0 (by decide)), (ck_top_ok (G := G) z196), (ck_top_ok (G := G) z204), trivial⟩ (fun w206 hw207 hf208 m209 => ?_)
                have hs210 := ty_same_tr hs149 m209
                exact ct133 w206 z134 sta g hw207 hf208 hs210 (by omega) (by omega) (by omega) (by omega)
            · -- 44
              refine ax_go 1 (y := (45, [some (.ref o), some (.int arr), some (.int sta), some (.int g)], [.ref o], w112, 0, 0)) rfl trivial ?_
              obtain ⟨p215, e216, hG217⟩ := hx_fr (k := 4) (s := 15) q21 rfl
              refine hx_gf (l := 48) rfl rfl rfl ((n117 _ (hx_ne hG0 hG102 (by decide))).trans g20) e216 ?_
              refine ax_go 2 (y := (50, [some (.ref o), some (.int arr), some (.int sta), some (.int g)], [.ref o, .int sta, .ref p215], w112, 0, 0)) rfl trivial ?_
              refine hx_gf (l := 53) rfl rfl rfl ((n117 _ (hx_ne hG0 hG102 (by decide))).trans g20) e216 ?_
              refine ax_go 1 (y := (54, [some (.ref o), some (.int arr), some (.int sta), some (.int g)], [.int g, .ref p215, .int sta, .ref p215], w112, 0, 0)) rfl trivial ?_
              obtain ⟨f218, g219, r220⟩ := hx_row hw118 hG217 (s := 15) (kd := 0) (n := 16) rfl (by decide)
              refine hx_il (l := 55) rfl rfl g219 (by omega) (by omega) (fun z221 h222 => ?_)
              have b223 := r220 (0, 16, 1, 0, 0, 9) (by decide) g.toInt.toNat (show (0 : Nat) ≤ _ by omega) (show _ < (16 : Nat) by omega) (show _ % (1 : Nat) = 0 by omega)
              rw [← h222] at b223
              replace b223 : (0 : Int) ≤ z221.toInt ∧ z221.toInt ≤ 9 := b223
              refine hx_is (s := 15) (l := 56) rfl rfl rfl hw118 hG217 g219 (by omega) (by omega) (hx_sg1 (fun _ _ _ => ⟨by omega, by omega⟩) hx_sg0) (fun w224 f225 g226 e227 o228 n229 hw230 n231 => ?_)
              have hs232 := ty_same_tr hs120 (n231 fz (hx_ok hfz (by decide)))
              have hf233 := hF _ _ (n231 pr_ (by decide)) hf121
              refine ax_go 1 (y := (57, [some (.ref o), some (.int arr), some (.int sta), some (.int g)], [.ref o], w224, 0, 0)) rfl trivial ?_
              obtain ⟨p234, e235, hG236⟩ := hx_fr (k := 5) (s := 12) q21 rfl
              refine hx_gf (l := 60) rfl rfl rfl ((n229 _ (hx_ne hG0 hG217 (by decide))).trans ((n117 _ (hx_ne hG0 hG102 (by decide))).trans g20)) e235 ?_
              refine ax_go 2 (y := (62, [some (.ref o), some (.int arr), some (.int sta), some (.int g)], [.ref o, .int sta, .ref p234], w224, 0, 0)) rfl trivial ?_
              refine hx_gf (l := 65) rfl rfl rfl ((n229 _ (hx_ne hG0 hG217 (by decide))).trans ((n117 _ (hx_ne hG0 hG102 (by decide))).trans g20)) e235 ?_
              refine ax_go 1 (y := (66, [some (.ref o), some (.int arr), some (.int sta), some (.int g)], [.int g, .ref p234, .int sta, .ref p234], w224, 0, 0)) rfl trivial ?_
              obtain ⟨f237, g238, r239⟩ := hx_row hw230 hG236 (s := 12) (kd := 0) (n := 16) rfl (by decide)
              refine hx_il (l := 67) rfl rfl g238 (by omega) (by omega) (fun z240 h241 => ?_)
              refine hx_is (s := 12) (l := 68) rfl rfl rfl hw230 hG236 g238 (by omega) (by omega) hx_sg0 (fun w242 f243 g244 e245 o246 n247 hw248 n249 => ?_)
              have hs250 := ty_same_tr hs232 (n249 fz (hx_ok hfz (by decide)))
              have hf251 := hF _ _ (n249 pr_ (by decide)) hf233
              refine ax_go 1 (y := (69, [some (.ref o), some (.int arr), some (.int sta), some (.int g)], [.ref o], w242, 0, 0)) rfl trivial ?_
              refine hx_gf (l := 72) rfl rfl rfl ((n247 _ (hx_ne hG0 hG236 (by decide))).trans ((n229 _ (hx_ne hG0 hG217 (by decide))).trans ((n117 _ (hx_ne hG0 hG102 (by decide))).trans g20))) e101 ?_
              refine ax_go 2 (y := (74, [some (.ref o), some (.int arr), some (.int sta), some (.int g)], [.ref o, .int sta, .ref p100], w242, 0, 0)) rfl trivial ?_
              refine hx_gf (l := 77) rfl rfl rfl ((n247 _ (hx_ne hG0 hG236 (by decide))).trans ((n229 _ (hx_ne hG0 hG217 (by decide))).trans ((n117 _ (hx_ne hG0 hG102 (by decide))).trans g20))) e101 ?_
              refine ax_go 1 (y := (78, [some (.ref o), some (.int arr), some (.int sta), some (.int g)], [.int g, .ref p100, .int sta, .ref p100], w242, 0, 0)) rfl trivial ?_
              obtain ⟨f252, g253, r254⟩ := hx_row hw248 hG102 (s := 12) (kd := 0) (n := 16) rfl (by decide)
              refine hx_il (l := 79) rfl rfl g253 (by omega) (by omega) (fun z255 h256 => ?_)
              refine hx_is (s := 12) (l := 80) rfl rfl rfl hw248 hG102 g253 (by omega) (by omega) hx_sg0 (fun w257 f258 g259 e260 o261 n262 hw263 n264 => ?_)
              have hs265 := ty_same_tr hs250 (n264 fz (hx_ok hfz (by decide)))
              have hf266 := hF _ _ (n264 pr_ (by decide)) hf251
              refine hx_iinc (x := sta) (n := 1) (l := 83) rfl rfl rfl (Nat.le_of_ble_eq_true rfl) (by omega) (by omega) (by decide) (fun z267 h268 => ?_)
              change ab_wp ro (ab_Ev ro ab_codes (d + 2)) 1 false (some .int) ab_k_X1_passDay (fun o_1 => ∃ v w1, o_1 = (v, w1, 0, 0) ∧ ty_w sp_ G w1 ∧ F w1 ∧ ty_same G fz w w1 ∧ ck_res G (some (0, (-2147483648), 2147483647)) v ∧ ck_wit 0 0 [.ref o] v) (83, [some (.ref o), some (.int arr), some (.int z267), some (.int g)], [], w257, 0, 0)
              refine ax_go 1 (y := (133, [some (.ref o), some (.int arr), some (.int z267), some (.int g)], [], w257, 0, 0)) rfl trivial ?_
              exact ct133 w257 arr z267 g hw263 hf266 hs265 (by omega) (by omega) (by omega) (by omega)
    change ab_wp ro (ab_Ev ro ab_codes (d + 2)) 1 false (some .int) ab_k_X1_passDay (fun o_1 => ∃ v w1, o_1 = (v, w1, 0, 0) ∧ ty_w sp_ G w1 ∧ F w1 ∧ ty_same G fz w w1 ∧ ck_res G (some (0, (-2147483648), 2147483647)) v ∧ ck_wit 0 0 [.ref o] v) (0, [some (.ref o), none, none, none], [], w, 0, 0)
    refine hx_k (l := 1) (m := 0) rfl rfl (by decide) (fun z269 h270 => ?_)
    refine ax_go 1 (y := (2, [some (.ref o), some (.int z269), none, none], [], w, 0, 0)) rfl trivial ?_
    refine hx_k (l := 3) (m := 0) rfl rfl (by decide) (fun z271 h272 => ?_)
    refine ax_go 2 (y := (5, [some (.ref o), some (.int z269), some (.int z271), none], [.ref o], w, 0, 0)) rfl trivial ?_
    refine hx_k (l := 6) (m := 0) rfl rfl (by decide) (fun z273 h274 => ?_)
    obtain ⟨fs275, g276, -, q277⟩ := hx_obj hw hG0 (s := 2) rfl (by decide)
    refine hx_pf (q := (0, 0, 0, 0, (-2147483648), 2147483647)) (s := 2) (l := 9) (v := .int z273) rfl rfl rfl (by decide) rfl rfl rfl hw hG0 g276 trivial (ck_top_ok (G := G) z273) (fun w278 fs279 g280 e281 o282 n283 hw284 n285 => ?_)
    have hs286 := ty_same_tr (ty_same_rf w) (n285 fz (hx_ok hfz (by decide)))
    have hf287 := hF _ _ (n285 pr_ (by decide)) hf
    refine hx_k (l := 10) (m := 0) rfl rfl (by decide) (fun z288 h289 => ?_)
    refine ax_go 1 (y := (11, [some (.ref o), some (.int z269), some (.int z271), some (.int z288)], [], w278, 0, 0)) rfl trivial ?_
    exact ct11 _ w278 z269 z271 z288 hw284 hf287 hs286 (by omega) (by omega) (by omega) (by omega) (Nat.lt_succ_self _)
def fb_X8_addFromTape : List (Nat × Nat) := [(8, 3), (8, 5), (19, 999), (32, 999), (33, 999), (34, 999), (35, 999), (44, 999), (45, 999), (1, 0), (18, 999), (2, 14), (1, 15), (54, 11), (4, 2), (7, 9), (30, 13), (30, 34), (30, 2), (30, 22), (30, 23), (30, 24), (30, 25), (46, 999), (47, 999), (30, 35), (30, 36), (7, 0), (24, 999), (37, 999), (30, 4), (30, 5), (30, 6), (30, 8), (30, 9), (30, 10), (30, 11), (30, 14), (30, 15), (30, 16), (30, 17), (30, 18), (30, 19), (30, 20), (30, 21), (39, 999), (40, 999), (41, 999), (30, 30), (30, 42), (30, 43), (30, 44), (1, 1), (1, 3), (1, 10), (1, 13), (8, 0), (30, 49), (2, 15), (8, 1)]
set_option maxHeartbeats 8000000 in
theorem h_X8_addFromTape {ro : ab_R} {G : Nat → Nat} {fz : List (Nat × Nat)} {F : ab_W → Prop} (hF : ∀ w w', ty_same G pr_ w w' → F w → F w') (hfz : ∀ q ∈ fz, q ∈ fb_X8_addFromTape) (d : Nat) : ck_ct ro sp_ G F fz (ab_Ev ro ab_codes (d + 2)) 118 [(2, 1, 0), (0, 0, 400)] (some (0, 0, 1)) 0 0 := by
  refine ck_hand (d := d + 1) (by decide) (fun as w hw hf has => ?_)
  match as, has with
  | [v0, v1], ⟨h0, h1, _⟩ =>
    obtain ⟨o, rfl, _, hG0⟩ := ty_refn h0 rfl rfl
    replace hG0 : G o = 1 := hG0
    obtain ⟨a1, rfl, hl1, hh1⟩ := ty_int h1 rfl
    replace hl1 : (0 : Int) ≤ a1.toInt := hl1
    replace hh1 : a1.toInt ≤ 400 := hh1
    refine ⟨rfl, ?_⟩
    change ab_wp ro (ab_Ev ro ab_codes (d + 1)) 8 false (some .boolean) ab_k_X8_addFromTape (fun o_1 => ∃ v w1, o_1 = (v, w1, 0, 0) ∧ ty_w sp_ G w1 ∧ F w1 ∧ ty_same G fz w w1 ∧ ck_res G (some (0, 0, 1)) v ∧ ck_wit 0 0 [.ref o, .int a1] v) (0, [some (.ref o), some (.int a1), none], [], w, 0, 0)
    refine ax_go 1 (y := (1, [some (.ref o), some (.int a1), none], [.ref o], w, 0, 0)) rfl trivial ?_
    obtain ⟨fs1, g2, -, q3⟩ := hx_obj hw hG0 (s := 1) rfl (by decide)
    obtain ⟨p4, e5, hG6⟩ := hx_fr (k := 10) (s := 8) q3 rfl
    refine hx_gf (l := 4) rfl rfl rfl g2 e5 ?_
    obtain ⟨fs7, g8, -, q9⟩ := hx_obj hw hG6 (s := 8) rfl (by decide)
    obtain ⟨p10, e11, hG12⟩ := hx_fr (k := 0) (s := 24) q9 rfl
    refine hx_gf (l := 7) rfl rfl rfl g8 e11 ?_
    refine ax_go 2 (y := (9, [some (.ref o), some (.int a1), some (.ref p10)], [.int a1], w, 0, 0)) rfl trivial ?_
    refine hx_if_lt (l := 12) rfl rfl (fun h13 => ?_) (fun h13 => ?_)
    · -- 40
      refine hx_k (l := 41) (m := 0) rfl rfl (by decide) (fun z14 h15 => ?_)
      exact ax_ret rfl rfl ⟨hx_01 (by omega) (by omega), trivial⟩ ⟨some (.int z14), _, rfl, hw, hf, (ty_same_rf w), (hx_ti (G := G) (lo := 0) (hi := 1) (by omega) (by omega)), trivial⟩
    · -- 12
      refine ax_go 1 (y := (13, [some (.ref o), some (.int a1), some (.ref p10)], [.int a1], w, 0, 0)) rfl trivial ?_
      refine hx_k (l := 14) (m := 2) rfl rfl (by decide) (fun z16 h17 => ?_)
      refine hx_add (l := 15) rfl rfl (fun z18 h19 => ?_)
      replace h19 := h19 (by omega) (by omega)
      refine ax_go 1 (y := (16, [some (.ref o), some (.int a1), some (.ref p10)], [.ref o, .int z18], w, 0, 0)) rfl trivial ?_
      obtain ⟨x20, e21, a22, b23⟩ := hx_fi (k := 0) (lo := 0) (hi := 400) q3 rfl
      refine hx_gf (l := 19) rfl rfl rfl g2 e21 ?_
      refine hx_ic_ge (l := 22) rfl rfl (fun h24 => ?_) (fun h24 => ?_)
      · -- 40
        refine hx_k (l := 41) (m := 0) rfl rfl (by decide) (fun z25 h26 => ?_)
        exact ax_ret rfl rfl ⟨hx_01 (by omega) (by omega), trivial⟩ ⟨some (.int z25), _, rfl, hw, hf, (ty_same_rf w), (hx_ti (G := G) (lo := 0) (hi := 1) (by omega) (by omega)), trivial⟩
      · -- 22
        refine ax_go 1 (y := (23, [some (.ref o), some (.int a1), some (.ref p10)], [.int a1], w, 0, 0)) rfl trivial ?_
        refine hx_k (l := 24) (m := 2) rfl rfl (by decide) (fun z27 h28 => ?_)
        refine hx_add (l := 25) rfl rfl (fun z29 h30 => ?_)
        replace h30 := h30 (by omega) (by omega)
        refine ax_go 1 (y := (26, [some (.ref o), some (.int a1), some (.ref p10)], [.ref p10, .int z29], w, 0, 0)) rfl trivial ?_
        obtain ⟨f31, g32, r33⟩ := hx_row hw hG12 (s := 24) (kd := 0) (n := 400) rfl (by decide)
        refine hx_len (l := 27) rfl rfl g32 rfl (by omega) (fun z34 h35 => ?_)
        refine hx_ic_ge (l := 30) rfl rfl (fun h36 => ?_) (fun h36 => ?_)
        · -- 40
          refine hx_k (l := 41) (m := 0) rfl rfl (by decide) (fun z37 h38 => ?_)
          exact ax_ret rfl rfl ⟨hx_01 (by omega) (by omega), trivial⟩ ⟨some (.int z37), _, rfl, hw, hf, (ty_same_rf w), (hx_ti (G := G) (lo := 0) (hi := 1) (by omega) (by omega)), trivial⟩
        · -- 30
          refine ax_go 2 (y := (32, [some (.ref o), some (.int a1), some (.ref p10)], [.int a1, .ref p10], w, 0, 0)) rfl trivial ?_
          refine hx_k (l := 33) (m := 2) rfl rfl (by decide) (fun z39 h40 => ?_)
          refine hx_add (l := 34) rfl rfl (fun z41 h42 => ?_)
          replace h42 := h42 (by omega) (by omega)
          refine hx_il (l := 35) rfl rfl g32 (by omega) (by omega) (fun z43 h44 => ?_)
          refine hx_k (l := 37) (m := 9) rfl rfl (by decide) (fun z45 h46 => ?_)
          refine hx_ic_le (l := 40) rfl rfl (fun h47 => ?_) (fun h47 => ?_)
          · -- 42
            refine ax_go 1 (y := (43, [some (.ref o), some (.int a1), some (.ref p10)], [.ref o], w, 0, 0)) rfl trivial ?_
            obtain ⟨p48, e49, hG50⟩ := hx_fr (k := 1) (s := 2) q3 rfl
            refine hx_gf (l := 46) rfl rfl rfl g2 e49 ?_
            refine ax_go 2 (y := (48, [some (.ref o), some (.int a1), some (.ref p10)], [.int a1, .ref p10, .ref p48], w, 0, 0)) rfl trivial ?_
            refine hx_il (l := 49) rfl rfl g32 (by omega) (by omega) (fun z51 h52 => ?_)
            refine hx_k (l := 50) (m := 1) rfl rfl (by decide) (fun z53 h54 => ?_)
            refine hx_sub (l := 51) rfl rfl (fun z55 h56 => ?_)
            refine hx_k (l := 53) (m := 10) rfl rfl (by decide) (fun z57 h58 => ?_)
            refine ax_go 2 (y := (55, [some (.ref o), some (.int a1), some (.ref p10)], [.int a1, .ref p10, .int z57, .int z55, .ref p48], w, 0, 0)) rfl trivial ?_
            refine hx_k (l := 56) (m := 1) rfl rfl (by decide) (fun z59 h60 => ?_)
            refine hx_add (l := 57) rfl rfl (fun z61 h62 => ?_)
            replace h62 := h62 (by omega) (by omega)
            refine hx_il (l := 58) rfl rfl g32 (by omega) (by omega) (fun z63 h64 => ?_)
            refine hx_mul (l := 59) rfl rfl (fun z65 h66 => ?_)
            rw [h58] at h66
            refine ax_go 2 (y := (61, [some (.ref o), some (.int a1), some (.ref p10)], [.int a1, .ref p10, .int z65, .int z55, .ref p48], w, 0, 0)) rfl trivial ?_
            refine hx_k (l := 62) (m := 2) rfl rfl (by decide) (fun z67 h68 => ?_)
            refine hx_add (l := 63) rfl rfl (fun z69 h70 => ?_)
            replace h70 := h70 (by omega) (by omega)
            refine hx_il (l := 64) rfl rfl g32 (by omega) (by omega) (fun z71 h72 => ?_)
            refine hx_add (l := 65) rfl rfl (fun z73 h74 => ?_)
            obtain ⟨fs75, g76, -, q77⟩ := hx_obj hw hG50 (s := 2) rfl (by decide)
            refine hx_ci (l := 68) (as := [.ref p48, .int z55, .int z73]) rfl rfl (hx_iv (j := 8) (n := 2) (o := p48) (r := []) rfl rfl g76 rfl) (cc_X1_addParish_0 (fz := fz) hF  (fun q hq => (by decide +kernel : ∀ q ∈ fb_X8_addFromTape, q ∈ fr_X1_addParish_0) q (hfz q hq)) (d + 0)) hw hf ⟨(hx_tr (G := G) (s := 2) (b := 0) hG50 (by decide)), (ck_top_ok (G := G) z55), (ck_top_ok (G := G) z73), trivial⟩ (fun w78 z83 hw79 hf80 m81 a84 b85 u86 => ?_)
            have hs82 := ty_same_tr (ty_same_rf w) m81
            refine hx_if_lt (l := 71) rfl rfl (fun h87 => ?_) (fun h87 => ?_)
            · -- 75
              refine hx_k (l := 76) (m := 0) rfl rfl (by decide) (fun z88 h89 => ?_)
              exact ax_ret rfl rfl ⟨hx_01 (by omega) (by omega), trivial⟩ ⟨some (.int z88), _, rfl, hw79, hf80, hs82, (hx_ti (G := G) (lo := 0) (hi := 1) (by omega) (by omega)), trivial⟩
            · -- 71
              refine hx_k (l := 72) (m := 1) rfl rfl (by decide) (fun z90 h91 => ?_)
              refine ax_go 1 (y := (76, [some (.ref o), some (.int a1), some (.ref p10)], [.int z90], w78, 0, 0)) rfl trivial ?_
              exact ax_ret rfl rfl ⟨hx_01 (by omega) (by omega), trivial⟩ ⟨some (.int z90), _, rfl, hw79, hf80, hs82, (hx_ti (G := G) (lo := 0) (hi := 1) (by omega) (by omega)), trivial⟩
          · -- 40
            refine hx_k (l := 41) (m := 0) rfl rfl (by decide) (fun z92 h93 => ?_)
            exact ax_ret rfl rfl ⟨hx_01 (by omega) (by omega), trivial⟩ ⟨some (.int z92), _, rfl, hw, hf, (ty_same_rf w), (hx_ti (G := G) (lo := 0) (hi := 1) (by omega) (by omega)), trivial⟩
def fb_X8_row : List (Nat × Nat) := [(8, 3), (8, 5), (19, 999), (32, 999), (33, 999), (34, 999), (35, 999), (44, 999), (45, 999), (18, 999), (2, 14), (54, 11), (4, 2), (7, 9), (30, 13), (30, 34), (30, 2), (30, 22), (30, 23), (30, 24), (30, 25), (46, 999), (47, 999), (30, 35), (30, 36), (7, 0), (24, 999), (37, 999), (30, 4), (30, 5), (30, 6), (30, 8), (30, 9), (30, 10), (30, 11), (30, 14), (30, 15), (30, 16), (30, 17), (30, 18), (30, 19), (30, 20), (30, 21), (39, 999), (40, 999), (41, 999), (30, 30), (30, 42), (30, 43), (30, 44), (1, 1), (1, 3), (1, 10), (1, 13), (8, 0), (30, 49), (2, 15), (8, 1)]
set_option maxHeartbeats 8000000 in
theorem h_X8_row {ro : ab_R} {G : Nat → Nat} {fz : List (Nat × Nat)} {F : ab_W → Prop} (hF : ∀ w w', ty_same G pr_ w w' → F w → F w') (hfz : ∀ q ∈ fz, q ∈ fb_X8_row) (d : Nat) : ck_ct ro sp_ G F fz (ab_Ev ro ab_codes (d + 3)) 86 [(2, 1, 0)] (some (0, (-2147483648), 2147483647)) 0 0 := by
  refine ck_hand (d := d + 2) (by decide) (fun as w hw hf has => ?_)
  match as, has with
  | [v0], ⟨h0, _⟩ =>
    obtain ⟨o, rfl, _, hG0⟩ := ty_refn h0 rfl rfl
    replace hG0 : G o = 1 := hG0
    refine ⟨rfl, ?_⟩
    have ct20 : ∀ (nq : Nat) (w1 : ab_W) (came : Int32) (stn : Int32) (ax : Int32), ty_w sp_ G w1 → F w1 → ty_same G fz w w1 → (0 ≤ ax.toInt) → (ax.toInt ≤ 402) → (0 ≤ came.toInt) → (came.toInt ≤ ax.toInt) → (0 ≤ stn.toInt) → (stn.toInt ≤ ax.toInt) → (403 - ax.toInt).toNat < nq → ab_wp ro (ab_Ev ro ab_codes (d + 2)) 8 false (some .int) ab_k_X8_row (fun o_1 => ∃ v w1, o_1 = (v, w1, 0, 0) ∧ ty_w sp_ G w1 ∧ F w1 ∧ ty_same G fz w w1 ∧ ck_res G (some (0, (-2147483648), 2147483647)) v ∧ ck_wit 0 0 [.ref o] v) (20, [some (.ref o), some (.int came), some (.int stn), some (.int ax)], [], w1, 0, 0) := by
      intro nq
      induction nq with
      | zero => intro w1 came stn ax hw8 hf9 hs10 i2 i3 i4 i5 i6 i7 hm; exact absurd hm (Nat.not_lt_zero _)
      | succ nq ih20 =>
        intro w1 came stn ax hw8 hf9 hs10 i2 i3 i4 i5 i6 i7 hm20
        refine ax_go 2 (y := (22, [some (.ref o), some (.int came), some (.int stn), some (.int ax)], [.ref o, .int ax], w1, 0, 0)) rfl trivial ?_
        obtain ⟨fs11, g12, -, q13⟩ := hx_obj hw8 hG0 (s := 1) rfl (by decide)
        obtain ⟨x14, e15, a16, b17⟩ := hx_fi (k := 0) (lo := 0) (hi := 400) q13 rfl
        refine hx_gf (l := 25) rfl rfl rfl g12 e15 ?_
        refine hx_ic_ge (l := 28) rfl rfl (fun h18 => ?_) (fun h18 => ?_)
        · -- 51
          refine ax_go 1 (y := (52, [some (.ref o), some (.int came), some (.int stn), some (.int ax)], [.ref o], w1, 0, 0)) rfl trivial ?_
          refine hx_k (l := 53) (m := 0) rfl rfl (by decide) (fun z19 h20 => ?_)
          refine hx_pf (q := (0, 0, 0, 0, 0, 400)) (s := 1) (l := 56) (v := .int z19) rfl rfl rfl (by decide) rfl rfl rfl hw8 hG0 g12 trivial (hx_ti (G := G) (lo := 0) (hi := 400) (by omega) (by omega)) (fun w21 fs22 g23 e24 o25 n26 hw27 n28 => ?_)
          have hs29 := ty_same_tr hs10 (n28 fz (hx_ok hfz (by decide)))
          have hf30 := hF _ _ (n28 pr_ (by decide)) hf9
          refine ax_go 2 (y := (58, [some (.ref o), some (.int came), some (.int stn), some (.int ax)], [.int stn, .ref o], w21, 0, 0)) rfl trivial ?_
          refine hx_pf (q := (0, 0, 0, 0, (-2147483648), 2147483647)) (s := 1) (l := 61) (v := .int stn) rfl rfl rfl (by decide) rfl rfl rfl hw27 hG0 g23 trivial (ck_top_ok (G := G) stn) (fun w31 fs32 g33 e34 o35 n36 hw37 n38 => ?_)
          have hs39 := ty_same_tr hs29 (n38 fz (hx_ok hfz (by decide)))
          have hf40 := hF _ _ (n38 pr_ (by decide)) hf30
          refine ax_go 1 (y := (62, [some (.ref o), some (.int came), some (.int stn), some (.int ax)], [.ref o], w31, 0, 0)) rfl trivial ?_
          have q41 := hx_oq hw37 g33 hG0 (s := 1) rfl
          obtain ⟨p42, e43, hG44⟩ := hx_fr (k := 6) (s := 3) q41 rfl
          refine hx_gf (l := 65) rfl rfl rfl g33 e43 ?_
          obtain ⟨fs45, g46, -, q47⟩ := hx_obj hw37 hG44 (s := 3) rfl (by decide)
          refine hx_c0 (l := 68) (as := [.ref p42]) rfl rfl (hx_iv (j := 37) (n := 0) (o := p42) (r := []) rfl rfl g46 rfl) (cc_X4_clear_0 (fz := fz) hF  (fun q hq => (by decide +kernel : ∀ q ∈ fb_X8_row, q ∈ fr_X4_clear_0) q (hfz q hq)) (d + 1)) hw37 hf40 ⟨(hx_tr (G := G) (s := 3) (b := 0) hG44 (by decide)), trivial⟩ (fun w48 hw49 hf50 m51 => ?_)
          have hs52 := ty_same_tr hs39 m51
          refine ax_go 2 (y := (70, [some (.ref o), some (.int came), some (.int stn), some (.int ax)], [.int came, .ref o], w48, 0, 0)) rfl trivial ?_
          obtain ⟨fs57, g58, -, q59⟩ := hx_obj hw49 hG0 (s := 1) rfl (by decide)
          refine hx_ci (l := 73) (as := [.ref o, .int came]) rfl rfl (hx_iv (j := 115) (n := 1) (o := o) (r := []) rfl rfl g58 rfl) (cc_X8_settle_0 (fz := fz) hF  (fun q hq => (by decide +kernel : ∀ q ∈ fb_X8_row, q ∈ fr_X8_settle_0) q (hfz q hq)) (d + 1)) hw49 hf50 ⟨(hx_tr (G := G) (s := 1) (b := 0) hG0 (by decide)), (ck_top_ok (G := G) came), trivial⟩ (fun w60 z65 hw61 hf62 m63 a66 b67 u68 => ?_)
          have hs64 := ty_same_tr hs52 m63
          exact ax_ret rfl rfl trivial ⟨some (.int z65), _, rfl, hw61, hf62, hs64, (ck_top_ok (G := G) z65), trivial⟩
        · -- 28
          refine ax_go 2 (y := (30, [some (.ref o), some (.int came), some (.int stn), some (.int ax)], [.int ax, .ref o], w1, 0, 0)) rfl trivial ?_
          refine hx_ci (l := 33) (as := [.ref o, .int ax]) rfl rfl (hx_iv (j := 118) (n := 1) (o := o) (r := []) rfl rfl g12 rfl) (h_X8_addFromTape (fz := fz) hF (fun q hq => (by decide +kernel : ∀ q ∈ fb_X8_row, q ∈ fb_X8_addFromTape) q (hfz q hq)) (d + 0)) hw8 hf9 ⟨(hx_tr (G := G) (s := 1) (b := 0) hG0 (by decide)), (hx_ti (G := G) (lo := 0) (hi := 400) (by omega) (by omega)), trivial⟩ (fun w69 z74 hw70 hf71 m72 a75 b76 u77 => ?_)
          have hs73 := ty_same_tr hs10 m72
          refine hx_if_eq (l := 36) rfl rfl (fun h78 => ?_) (fun h78 => ?_)
          · -- 42
            refine hx_iinc (x := stn) (n := 1) (l := 45) rfl rfl rfl (Nat.le_of_ble_eq_true rfl) (by omega) (by omega) (by decide) (fun z79 h80 => ?_)
            change ab_wp ro (ab_Ev ro ab_codes (d + 2)) 8 false (some .int) ab_k_X8_row (fun o_1 => ∃ v w1, o_1 = (v, w1, 0, 0) ∧ ty_w sp_ G w1 ∧ F w1 ∧ ty_same G fz w w1 ∧ ck_res G (some (0, (-2147483648), 2147483647)) v ∧ ck_wit 0 0 [.ref o] v) (45, [some (.ref o), some (.int came), some (.int z79), some (.int ax)], [], w69, 0, 0)
            refine hx_iinc (x := ax) (n := 3) (l := 48) rfl rfl rfl (Nat.le_of_ble_eq_true rfl) (by omega) (by omega) (by decide) (fun z81 h82 => ?_)
            change ab_wp ro (ab_Ev ro ab_codes (d + 2)) 8 false (some .int) ab_k_X8_row (fun o_1 => ∃ v w1, o_1 = (v, w1, 0, 0) ∧ ty_w sp_ G w1 ∧ F w1 ∧ ty_same G fz w w1 ∧ ck_res G (some (0, (-2147483648), 2147483647)) v ∧ ck_wit 0 0 [.ref o] v) (48, [some (.ref o), some (.int came), some (.int z79), some (.int z81)], [], w69, 0, 0)
            refine ax_go 1 (y := (20, [some (.ref o), some (.int came), some (.int z79), some (.int z81)], [], w69, 0, 0)) rfl trivial ?_
            exact ih20 w69 came z79 z81 hw70 hf71 hs73 (by omega) (by omega) (by omega) (by omega) (by omega) (by omega) (by omega)
          · -- 36
            refine hx_iinc (x := came) (n := 1) (l := 39) rfl rfl rfl (Nat.le_of_ble_eq_true rfl) (by omega) (by omega) (by decide) (fun z83 h84 => ?_)
            change ab_wp ro (ab_Ev ro ab_codes (d + 2)) 8 false (some .int) ab_k_X8_row (fun o_1 => ∃ v w1, o_1 = (v, w1, 0, 0) ∧ ty_w sp_ G w1 ∧ F w1 ∧ ty_same G fz w w1 ∧ ck_res G (some (0, (-2147483648), 2147483647)) v ∧ ck_wit 0 0 [.ref o] v) (39, [some (.ref o), some (.int z83), some (.int stn), some (.int ax)], [], w69, 0, 0)
            refine ax_go 1 (y := (45, [some (.ref o), some (.int z83), some (.int stn), some (.int ax)], [], w69, 0, 0)) rfl trivial ?_
            refine hx_iinc (x := ax) (n := 3) (l := 48) rfl rfl rfl (Nat.le_of_ble_eq_true rfl) (by omega) (by omega) (by decide) (fun z85 h86 => ?_)
            change ab_wp ro (ab_Ev ro ab_codes (d + 2)) 8 false (some .int) ab_k_X8_row (fun o_1 => ∃ v w1, o_1 = (v, w1, 0, 0) ∧ ty_w sp_ G w1 ∧ F w1 ∧ ty_same G fz w w1 ∧ ck_res G (some (0, (-2147483648), 2147483647)) v ∧ ck_wit 0 0 [.ref o] v) (48, [some (.ref o), some (.int z83), some (.int stn), some (.int z85)], [], w69, 0, 0)
            refine ax_go 1 (y := (20, [some (.ref o), some (.int z83), some (.int stn), some (.int z85)], [], w69, 0, 0)) rfl trivial ?_
            exact ih20 w69 z83 stn z85 hw70 hf71 hs73 (by omega) (by omega) (by omega) (by omega) (by omega) (by omega) (by omega)
    change ab_wp ro (ab_Ev ro ab_codes (d + 2)) 8 false (some .int) ab_k_X8_row (fun o_1 => ∃ v w1, o_1 = (v, w1, 0, 0) ∧ ty_w sp_ G w1 ∧ F w1 ∧ ty_same G fz w w1 ∧ ck_res G (some (0, (-2147483648), 2147483647)) v ∧ ck_wit 0 0 [.ref o] v) (0, [some (.ref o), none, none, none], [], w, 0, 0)
    refine ax_go 1 (y := (1, [some (.ref o), none, none, none], [.ref o], w, 0, 0)) rfl trivial ?_
    obtain ⟨fs87, g88, -, q89⟩ := hx_obj hw hG0 (s := 1) rfl (by decide)
    obtain ⟨x90, e91, a92, b93⟩ := hx_fi (k := 0) (lo := 0) (hi := 400) q89 rfl
    refine hx_gf (l := 4) rfl rfl rfl g88 e91 ?_
    refine hx_if_ne (l := 7) rfl rfl (fun h94 => ?_) (fun h94 => ?_)
    · -- 14
      refine hx_k (l := 15) (m := 0) rfl rfl (by decide) (fun z95 h96 => ?_)
      refine ax_go 1 (y := (16, [some (.ref o), some (.int z95), none, none], [], w, 0, 0)) rfl trivial ?_
      refine hx_k (l := 17) (m := 0) rfl rfl (by decide) (fun z97 h98 => ?_)
      refine ax_go 1 (y := (18, [some (.ref o), some (.int z95), some (.int z97), none], [], w, 0, 0)) rfl trivial ?_
      refine hx_k (l := 19) (m := 0) rfl rfl (by decide) (fun z99 h100 => ?_)
      refine ax_go 1 (y := (20, [some (.ref o), some (.int z95), some (.int z97), some (.int z99)], [], w, 0, 0)) rfl trivial ?_
      exact ct20 _ w z95 z97 z99 hw hf (ty_same_rf w) (by omega) (by omega) (by omega) (by omega) (by omega) (by omega) (Nat.lt_succ_self _)
    · -- 7
      refine ax_go 1 (y := (8, [some (.ref o), none, none, none], [.ref o], w, 0, 0)) rfl trivial ?_
      refine hx_k (l := 10) (m := (-6)) rfl rfl (by decide) (fun z101 h102 => ?_)
      refine hx_ci (l := 13) (as := [.ref o, .int z101]) rfl rfl (hx_iv (j := 115) (n := 1) (o := o) (r := []) rfl rfl g88 rfl) (cc_X8_settle_0 (fz := fz) hF  (fun q hq => (by decide +kernel : ∀ q ∈ fb_X8_row, q ∈ fr_X8_settle_0) q (hfz q hq)) (d + 1)) hw hf ⟨(hx_tr (G := G) (s := 1) (b := 0) hG0 (by decide)), (ck_top_ok (G := G) z101), trivial⟩ (fun w103 z108 hw104 hf105 m106 a109 b110 u111 => ?_)
      have hs107 := ty_same_tr (ty_same_rf w) m106
      exact ax_ret rfl rfl trivial ⟨some (.int z108), _, rfl, hw104, hf105, hs107, (ck_top_ok (G := G) z108), trivial⟩
def fb_X8_terms : List (Nat × Nat) := [(8, 3), (8, 5), (19, 999), (32, 999), (33, 999), (34, 999), (35, 999), (44, 999), (45, 999), (1, 0), (18, 999), (2, 11), (2, 14), (1, 15), (54, 11), (4, 2), (7, 9), (30, 13), (30, 34), (30, 2), (30, 22), (30, 23), (30, 24), (30, 25), (46, 999), (47, 999), (30, 35), (30, 36), (7, 0), (24, 999), (37, 999), (30, 4), (30, 5), (30, 6), (30, 8), (30, 9), (30, 10), (30, 11), (30, 14), (30, 15), (30, 16), (30, 17), (30, 18), (30, 19), (30, 20), (30, 21), (39, 999), (40, 999), (41, 999), (30, 30), (30, 42), (30, 43), (30, 44), (1, 1), (1, 3), (1, 10), (1, 13), (8, 0), (30, 49), (2, 15), (8, 1)]
set_option maxHeartbeats 8000000 in
theorem h_X8_terms {ro : ab_R} {G : Nat → Nat} {fz : List (Nat × Nat)} {F : ab_W → Prop} (hF : ∀ w w', ty_same G pr_ w w' → F w → F w') (hr1 : ∃ f, ro 1 = some (4, f)) (hr2 : ∃ f, ro 2 = some (4, f)) (hfz : ∀ q ∈ fz, q ∈ fb_X8_terms) (d : Nat) : ck_ct ro sp_ G F fz (ab_Ev ro ab_codes (d + 2)) 83 [(2, 1, 0), (0, (-2147483648), 2147483647), (0, (-2147483648), 2147483647)] (some (0, (-2147483648), 2147483647)) 0 0 := by
  refine ck_hand (d := d + 1) (by decide) (fun as w hw hf has => ?_)
  match as, has with
  | [v0, v1, v2], ⟨h0, h1, h2, _⟩ =>
    obtain ⟨o, rfl, _, hG0⟩ := ty_refn h0 rfl rfl
    replace hG0 : G o = 1 := hG0
    obtain ⟨wh, rfl, hl1, hh1⟩ := ty_int h1 rfl
    replace hl1 : ((-2147483648) : Int) ≤ wh.toInt := hl1
    replace hh1 : wh.toInt ≤ 2147483647 := hh1
    obtain ⟨vl, rfl, hl2, hh2⟩ := ty_int h2 rfl
    replace hl2 : ((-2147483648) : Int) ≤ vl.toInt := hl2
    replace hh2 : vl.toInt ≤ 2147483647 := hh2
    refine ⟨rfl, ?_⟩
    obtain ⟨rf1, hr1⟩ := hr1
    obtain ⟨rf2, hr2⟩ := hr2
    change ab_wp ro (ab_Ev ro ab_codes (d + 1)) 8 false (some .int) ab_k_X8_terms (fun o_1 => ∃ v w1, o_1 = (v, w1, 0, 0) ∧ ty_w sp_ G w1 ∧ F w1 ∧ ty_same G fz w w1 ∧ ck_res G (some (0, (-2147483648), 2147483647)) v ∧ ck_wit 0 0 [.ref o, .int wh, .int vl] v) (0, [some (.ref o), some (.int wh), some (.int vl), none], [], w, 0, 0)
    refine ax_go 1 (y := (1, [some (.ref o), some (.int wh), some (.int vl), none], [.int wh], w, 0, 0)) rfl trivial ?_
    refine hx_if_lt (l := 4) rfl rfl (fun h1 => ?_) (fun h1 => ?_)
    · -- 30
      refine ax_go 1 (y := (31, [some (.ref o), some (.int wh), some (.int vl), none], [.ref o], w, 0, 0)) rfl trivial ?_
      refine hx_k (l := 32) (m := (-1)) rfl rfl (by decide) (fun z2 h3 => ?_)
      obtain ⟨fs4, g5, -, q6⟩ := hx_obj hw hG0 (s := 1) rfl (by decide)
      refine hx_ci (l := 35) (as := [.ref o, .int z2]) rfl rfl (hx_iv (j := 115) (n := 1) (o := o) (r := []) rfl rfl g5 rfl) (cc_X8_settle_0 (fz := fz) hF  (fun q hq => (by decide +kernel : ∀ q ∈ fb_X8_terms, q ∈ fr_X8_settle_0) q (hfz q hq)) (d + 0)) hw hf ⟨(hx_tr (G := G) (s := 1) (b := 0) hG0 (by decide)), (ck_top_ok (G := G) z2), trivial⟩ (fun w7 z12 hw8 hf9 m10 a13 b14 u15 => ?_)
      have hs11 := ty_same_tr (ty_same_rf w) m10
      exact ax_ret rfl rfl trivial ⟨some (.int z12), _, rfl, hw8, hf9, hs11, (ck_top_ok (G := G) z12), trivial⟩
    · -- 4
      refine ax_go 2 (y := (8, [some (.ref o), some (.int wh), some (.int vl), none], [.ref 1000002, .int wh], w, 0, 0)) rfl trivial ?_
      refine hx_flen (l := 9) rfl rfl (hx_out hw (by decide)) (by decide) hr2 (by decide) (fun z16 h17 => ?_)
      refine hx_ic_ge (l := 12) rfl rfl (fun h18 => ?_) (fun h18 => ?_)
      · -- 30
        refine ax_go 1 (y := (31, [some (.ref o), some (.int wh), some (.int vl), none], [.ref o], w, 0, 0)) rfl trivial ?_
        refine hx_k (l := 32) (m := (-1)) rfl rfl (by decide) (fun z19 h20 => ?_)
        obtain ⟨fs21, g22, -, q23⟩ := hx_obj hw hG0 (s := 1) rfl (by decide)
        refine hx_ci (l := 35) (as := [.ref o, .int z19]) rfl rfl (hx_iv (j := 115) (n := 1) (o := o) (r := []) rfl rfl g22 rfl) (cc_X8_settle_0 (fz := fz) hF  (fun q hq => (by decide +kernel : ∀ q ∈ fb_X8_terms, q ∈ fr_X8_settle_0) q (hfz q hq)) (d + 0)) hw hf ⟨(hx_tr (G := G) (s := 1) (b := 0) hG0 (by decide)), (ck_top_ok (G := G) z19), trivial⟩ (fun w24 z29 hw25 hf26 m27 a30 b31 u32 => ?_)
        have hs28 := ty_same_tr (ty_same_rf w) m27
        exact ax_ret rfl rfl trivial ⟨some (.int z29), _, rfl, hw25, hf26, hs28, (ck_top_ok (G := G) z29), trivial⟩
      · -- 12
        refine ax_go 3 (y := (17, [some (.ref o), some (.int wh), some (.int vl), none], [.int wh, .ref 1000001, .int vl], w, 0, 0)) rfl trivial ?_
        refine hx_fil (l := 18) rfl rfl (hx_out hw (by decide)) (by decide) hr1 (by omega) (by omega) (fun z33 h34 => ?_)
        refine hx_ic_lt (l := 21) rfl rfl (fun h35 => ?_) (fun h35 => ?_)
        · -- 30
          refine ax_go 1 (y := (31, [some (.ref o), some (.int wh), some (.int vl), none], [.ref o], w, 0, 0)) rfl trivial ?_
          refine hx_k (l := 32) (m := (-1)) rfl rfl (by decide) (fun z36 h37 => ?_)
          obtain ⟨fs38, g39, -, q40⟩ := hx_obj hw hG0 (s := 1) rfl (by decide)
          refine hx_ci (l := 35) (as := [.ref o, .int z36]) rfl rfl (hx_iv (j := 115) (n := 1) (o := o) (r := []) rfl rfl g39 rfl) (cc_X8_settle_0 (fz := fz) hF  (fun q hq => (by decide +kernel : ∀ q ∈ fb_X8_terms, q ∈ fr_X8_settle_0) q (hfz q hq)) (d + 0)) hw hf ⟨(hx_tr (G := G) (s := 1) (b := 0) hG0 (by decide)), (ck_top_ok (G := G) z36), trivial⟩ (fun w41 z46 hw42 hf43 m44 a47 b48 u49 => ?_)
          have hs45 := ty_same_tr (ty_same_rf w) m44
          exact ax_ret rfl rfl trivial ⟨some (.int z46), _, rfl, hw42, hf43, hs45, (ck_top_ok (G := G) z46), trivial⟩
        · -- 21
          refine ax_go 3 (y := (26, [some (.ref o), some (.int wh), some (.int vl), none], [.int wh, .ref 1000002, .int vl], w, 0, 0)) rfl trivial ?_
          refine hx_fil (l := 27) rfl rfl (hx_out hw (by decide)) (by decide) hr2 (by omega) (by omega) (fun z50 h51 => ?_)
          refine hx_ic_le (l := 30) rfl rfl (fun h52 => ?_) (fun h52 => ?_)
          · -- 36
            refine ax_go 1 (y := (37, [some (.ref o), some (.int wh), some (.int vl), none], [.ref o], w, 0, 0)) rfl trivial ?_
            obtain ⟨fs53, g54, -, q55⟩ := hx_obj hw hG0 (s := 1) rfl (by decide)
            obtain ⟨p56, e57, hG58⟩ := hx_fr (k := 1) (s := 2) q55 rfl
            refine hx_gf (l := 40) rfl rfl rfl g54 e57 ?_
            obtain ⟨fs59, g60, -, q61⟩ := hx_obj hw hG58 (s := 2) rfl (by decide)
            obtain ⟨p62, e63, hG64⟩ := hx_fr (k := 7) (s := 13) q61 rfl
            refine hx_gf (l := 43) rfl rfl rfl g60 e63 ?_
            refine ax_go 1 (y := (44, [some (.ref o), some (.int wh), some (.int vl), none], [.int wh, .ref p62], w, 0, 0)) rfl trivial ?_
            obtain ⟨f65, g66, r67⟩ := hx_row hw hG64 (s := 13) (kd := 0) (n := 4) rfl (by decide)
            refine hx_il (l := 45) rfl rfl g66 (by omega) (by omega) (fun z68 h69 => ?_)
            refine ax_go 2 (y := (47, [some (.ref o), some (.int wh), some (.int vl), some (.int z68)], [.ref o], w, 0, 0)) rfl trivial ?_
            refine hx_gf (l := 50) rfl rfl rfl g54 e57 ?_
            refine hx_gf (l := 53) rfl rfl rfl g60 e63 ?_
            refine ax_go 2 (y := (55, [some (.ref o), some (.int wh), some (.int vl), some (.int z68)], [.int vl, .int wh, .ref p62], w, 0, 0)) rfl trivial ?_
            refine hx_is (s := 13) (l := 56) rfl rfl rfl hw hG64 g66 (by omega) (by omega) hx_sg0 (fun w70 f71 g72 e73 o74 n75 hw76 n77 => ?_)
            have hs78 := ty_same_tr (ty_same_rf w) (n77 fz (hx_ok hfz (by decide)))
            have hf79 := hF _ _ (n77 pr_ (by decide)) hf
            refine ax_go 1 (y := (57, [some (.ref o), some (.int wh), some (.int vl), some (.int z68)], [.ref o], w70, 0, 0)) rfl trivial ?_
            obtain ⟨p80, e81, hG82⟩ := hx_fr (k := 6) (s := 3) q55 rfl
            refine hx_gf (l := 60) rfl rfl rfl ((n75 _ (hx_ne hG0 hG64 (by decide))).trans g54) e81 ?_
            obtain ⟨fs83, g84, -, q85⟩ := hx_obj hw76 hG82 (s := 3) rfl (by decide)
            refine hx_c0 (l := 63) (as := [.ref p80]) rfl rfl (hx_iv (j := 37) (n := 0) (o := p80) (r := []) rfl rfl g84 rfl) (cc_X4_clear_0 (fz := fz) hF  (fun q hq => (by decide +kernel : ∀ q ∈ fb_X8_terms, q ∈ fr_X4_clear_0) q (hfz q hq)) (d + 0)) hw76 hf79 ⟨(hx_tr (G := G) (s := 3) (b := 0) hG82 (by decide)), trivial⟩ (fun w86 hw87 hf88 m89 => ?_)
            have hs90 := ty_same_tr hs78 m89
            refine ax_go 2 (y := (65, [some (.ref o), some (.int wh), some (.int vl), some (.int z68)], [.int z68, .ref o], w86, 0, 0)) rfl trivial ?_
            obtain ⟨fs95, g96, -, q97⟩ := hx_obj hw87 hG0 (s := 1) rfl (by decide)
            refine hx_ci (l := 68) (as := [.ref o, .int z68]) rfl rfl (hx_iv (j := 115) (n := 1) (o := o) (r := []) rfl rfl g96 rfl) (cc_X8_settle_0 (fz := fz) hF  (fun q hq => (by decide +kernel : ∀ q ∈ fb_X8_terms, q ∈ fr_X8_settle_0) q (hfz q hq)) (d + 0)) hw87 hf88 ⟨(hx_tr (G := G) (s := 1) (b := 0) hG0 (by decide)), (ck_top_ok (G := G) z68), trivial⟩ (fun w98 z103 hw99 hf100 m101 a104 b105 u106 => ?_)
            have hs102 := ty_same_tr hs90 m101
            exact ax_ret rfl rfl trivial ⟨some (.int z103), _, rfl, hw99, hf100, hs102, (ck_top_ok (G := G) z103), trivial⟩
          · -- 30
            refine ax_go 1 (y := (31, [some (.ref o), some (.int wh), some (.int vl), none], [.ref o], w, 0, 0)) rfl trivial ?_
            refine hx_k (l := 32) (m := (-1)) rfl rfl (by decide) (fun z107 h108 => ?_)
            obtain ⟨fs109, g110, -, q111⟩ := hx_obj hw hG0 (s := 1) rfl (by decide)
            refine hx_ci (l := 35) (as := [.ref o, .int z107]) rfl rfl (hx_iv (j := 115) (n := 1) (o := o) (r := []) rfl rfl g110 rfl) (cc_X8_settle_0 (fz := fz) hF  (fun q hq => (by decide +kernel : ∀ q ∈ fb_X8_terms, q ∈ fr_X8_settle_0) q (hfz q hq)) (d + 0)) hw hf ⟨(hx_tr (G := G) (s := 1) (b := 0) hG0 (by decide)), (ck_top_ok (G := G) z107), trivial⟩ (fun w112 z117 hw113 hf114 m115 a118 b119 u120 => ?_)
            have hs116 := ty_same_tr (ty_same_rf w) m115
            exact ax_ret rfl rfl trivial ⟨some (.int z117), _, rfl, hw113, hf114, hs116, (ck_top_ok (G := G) z117), trivial⟩
def fb_X8_hear : List (Nat × Nat) := [(8, 3), (8, 5), (19, 999), (32, 999), (33, 999), (34, 999), (35, 999), (44, 999), (45, 999), (1, 0), (18, 999), (2, 11), (1, 15), (54, 11), (4, 2), (7, 9), (30, 13), (30, 34), (30, 2), (30, 22), (30, 23), (30, 24), (30, 25), (46, 999), (47, 999), (30, 35), (30, 36), (7, 0), (24, 999), (37, 999), (30, 4), (30, 5), (30, 6), (30, 8), (30, 9), (30, 10), (30, 11), (30, 14), (30, 15), (30, 16), (30, 17), (30, 18), (30, 19), (30, 20), (30, 21), (39, 999), (40, 999), (41, 999), (30, 30), (30, 42), (30, 43), (30, 44), (1, 1), (1, 3), (1, 10), (1, 13), (8, 0), (30, 49), (2, 15), (8, 1)]
set_option maxHeartbeats 8000000 in
theorem h_X8_hear {ro : ab_R} {G : Nat → Nat} {fz : List (Nat × Nat)} {F : ab_W → Prop} (hF : ∀ w w', ty_same G pr_ w w' → F w → F w') (hfz : ∀ q ∈ fz, q ∈ fb_X8_hear) (d : Nat) : ck_ct ro sp_ G F fz (ab_Ev ro ab_codes (d + 2)) 103 [(2, 1, 0), (0, (-2147483648), 2147483647), (0, (-2147483648), 2147483647)] (some (0, (-2147483648), 2147483647)) 0 0 := by
  refine ck_hand (d := d + 1) (by decide) (fun as w hw hf has => ?_)
  match as, has with
  | [v0, v1, v2], ⟨h0, h1, h2, _⟩ =>
    obtain ⟨o, rfl, _, hG0⟩ := ty_refn h0 rfl rfl
    replace hG0 : G o = 1 := hG0
    obtain ⟨p, rfl, hl1, hh1⟩ := ty_int h1 rfl
    replace hl1 : ((-2147483648) : Int) ≤ p.toInt := hl1
    replace hh1 : p.toInt ≤ 2147483647 := hh1
    obtain ⟨b, rfl, hl2, hh2⟩ := ty_int h2 rfl
    replace hl2 : ((-2147483648) : Int) ≤ b.toInt := hl2
    replace hh2 : b.toInt ≤ 2147483647 := hh2
    refine ⟨rfl, ?_⟩
    change ab_wp ro (ab_Ev ro ab_codes (d + 1)) 8 false (some .int) ab_k_X8_hear (fun o_1 => ∃ v w1, o_1 = (v, w1, 0, 0) ∧ ty_w sp_ G w1 ∧ F w1 ∧ ty_same G fz w w1 ∧ ck_res G (some (0, (-2147483648), 2147483647)) v ∧ ck_wit 0 0 [.ref o, .int p, .int b] v) (0, [some (.ref o), some (.int p), some (.int b)], [], w, 0, 0)
    refine ax_go 1 (y := (1, [some (.ref o), some (.int p), some (.int b)], [.int b], w, 0, 0)) rfl trivial ?_
    refine hx_if_lt (l := 4) rfl rfl (fun h1 => ?_) (fun h1 => ?_)
    · -- 10
      refine ax_go 1 (y := (11, [some (.ref o), some (.int p), some (.int b)], [.ref o], w, 0, 0)) rfl trivial ?_
      refine hx_k (l := 12) (m := (-1)) rfl rfl (by decide) (fun z2 h3 => ?_)
      obtain ⟨fs4, g5, -, q6⟩ := hx_obj hw hG0 (s := 1) rfl (by decide)
      refine hx_ci (l := 15) (as := [.ref o, .int z2]) rfl rfl (hx_iv (j := 115) (n := 1) (o := o) (r := []) rfl rfl g5 rfl) (cc_X8_settle_0 (fz := fz) hF  (fun q hq => (by decide +kernel : ∀ q ∈ fb_X8_hear, q ∈ fr_X8_settle_0) q (hfz q hq)) (d + 0)) hw hf ⟨(hx_tr (G := G) (s := 1) (b := 0) hG0 (by decide)), (ck_top_ok (G := G) z2), trivial⟩ (fun w7 z12 hw8 hf9 m10 a13 b14 u15 => ?_)
      have hs11 := ty_same_tr (ty_same_rf w) m10
      exact ax_ret rfl rfl trivial ⟨some (.int z12), _, rfl, hw8, hf9, hs11, (ck_top_ok (G := G) z12), trivial⟩
    · -- 4
      refine ax_go 1 (y := (5, [some (.ref o), some (.int p), some (.int b)], [.int b], w, 0, 0)) rfl trivial ?_
      refine hx_k (l := 7) (m := 98) rfl rfl (by decide) (fun z16 h17 => ?_)
      refine hx_ic_le (l := 10) rfl rfl (fun h18 => ?_) (fun h18 => ?_)
      · -- 16
        refine ax_go 1 (y := (17, [some (.ref o), some (.int p), some (.int b)], [.ref o], w, 0, 0)) rfl trivial ?_
        obtain ⟨fs19, g20, -, q21⟩ := hx_obj hw hG0 (s := 1) rfl (by decide)
        obtain ⟨p22, e23, hG24⟩ := hx_fr (k := 1) (s := 2) q21 rfl
        refine hx_gf (l := 20) rfl rfl rfl g20 e23 ?_
        refine ax_go 1 (y := (21, [some (.ref o), some (.int p), some (.int b)], [.int p, .ref p22], w, 0, 0)) rfl trivial ?_
        obtain ⟨fs25, g26, -, q27⟩ := hx_obj hw hG24 (s := 2) rfl (by decide)
        refine hx_ci (l := 24) (as := [.ref p22, .int p]) rfl rfl (hx_iv (j := 5) (n := 1) (o := p22) (r := []) rfl rfl g26 rfl) (h_X1_has0 (fz := fz) hF (fun q hq => (by decide +kernel : ∀ q ∈ fb_X8_hear, q ∈ fb_X1_has0) q (hfz q hq)) (d + 0)) hw hf ⟨(hx_tr (G := G) (s := 2) (b := 0) hG24 (by decide)), (ck_top_ok (G := G) p), trivial⟩ (fun w28 z33 hw29 hf30 m31 a34 b35 u36 => ?_)
        have u37 : z33.toInt ≠ 0 → (0 : Int) ≤ p.toInt ∧ p.toInt ≤ 9 := fun hz => hx_wit (a := 1) (wf := 10000000001009) u36 rfl hz
        have hs32 := ty_same_tr (ty_same_rf w) m31
        refine hx_if_ne (l := 27) rfl rfl (fun h38 => ?_) (fun h38 => ?_)
        · -- 34
          refine ax_go 1 (y := (35, [some (.ref o), some (.int p), some (.int b)], [.ref o], w28, 0, 0)) rfl trivial ?_
          obtain ⟨fs39, g40, -, q41⟩ := hx_obj hw29 hG0 (s := 1) rfl (by decide)
          obtain ⟨p42, e43, hG44⟩ := hx_fr (k := 1) (s := 2) q41 rfl
          refine hx_gf (l := 38) rfl rfl rfl g40 e43 ?_
          obtain ⟨fs45, g46, -, q47⟩ := hx_obj hw29 hG44 (s := 2) rfl (by decide)
          obtain ⟨x48, e49, a50, b51⟩ := hx_fi (k := 14) (lo := 0) (hi := 8) q47 rfl
          refine hx_gf (l := 41) rfl rfl rfl g46 e49 ?_
          refine hx_k (l := 43) (m := 8) rfl rfl (by decide) (fun z52 h53 => ?_)
          refine hx_ic_lt (l := 46) rfl rfl (fun h54 => ?_) (fun h54 => ?_)
          · -- 53
            refine ax_go 1 (y := (54, [some (.ref o), some (.int p), some (.int b)], [.ref o], w28, 0, 0)) rfl trivial ?_
            refine hx_gf (l := 57) rfl rfl rfl g40 e43 ?_
            obtain ⟨p55, e56, hG57⟩ := hx_fr (k := 8) (s := 14) q47 rfl
            refine hx_gf (l := 60) rfl rfl rfl g46 e56 ?_
            refine ax_go 1 (y := (61, [some (.ref o), some (.int p), some (.int b)], [.ref o, .ref p55], w28, 0, 0)) rfl trivial ?_
            refine hx_gf (l := 64) rfl rfl rfl g40 e43 ?_
            refine hx_gf (l := 67) rfl rfl rfl g46 e49 ?_
            refine ax_go 1 (y := (68, [some (.ref o), some (.int p), some (.int b)], [.int p, .int x48, .ref p55], w28, 0, 0)) rfl trivial ?_
            obtain ⟨f58, g59, r60⟩ := hx_row hw29 hG57 (s := 14) (kd := 0) (n := 8) rfl (by decide)
            refine hx_is (s := 14) (l := 69) rfl rfl rfl hw29 hG57 g59 (by omega) (by omega) hx_sg0 (fun w61 f62 g63 e64 o65 n66 hw67 n68 => ?_)
            have hs69 := ty_same_tr hs32 (n68 fz (hx_ok hfz (by decide)))
            have hf70 := hF _ _ (n68 pr_ (by decide)) hf30
            refine ax_go 1 (y := (70, [some (.ref o), some (.int p), some (.int b)], [.ref o], w61, 0, 0)) rfl trivial ?_
            refine hx_gf (l := 73) rfl rfl rfl ((n66 _ (hx_ne hG0 hG57 (by decide))).trans g40) e43 ?_
            obtain ⟨p71, e72, hG73⟩ := hx_fr (k := 9) (s := 14) q47 rfl
            refine hx_gf (l := 76) rfl rfl rfl ((n66 _ (hx_ne hG44 hG57 (by decide))).trans g46) e72 ?_
            refine ax_go 1 (y := (77, [some (.ref o), some (.int p), some (.int b)], [.ref o, .ref p71], w61, 0, 0)) rfl trivial ?_
            refine hx_gf (l := 80) rfl rfl rfl ((n66 _ (hx_ne hG0 hG57 (by decide))).trans g40) e43 ?_
            refine hx_gf (l := 83) rfl rfl rfl ((n66 _ (hx_ne hG44 hG57 (by decide))).trans g46) e49 ?_
            refine ax_go 1 (y := (84, [some (.ref o), some (.int p), some (.int b)], [.int b, .int x48, .ref p71], w61, 0, 0)) rfl trivial ?_
            obtain ⟨f74, g75, r76⟩ := hx_row hw67 hG73 (s := 14) (kd := 0) (n := 8) rfl (by decide)
            refine hx_is (s := 14) (l := 85) rfl rfl rfl hw67 hG73 g75 (by omega) (by omega) hx_sg0 (fun w77 f78 g79 e80 o81 n82 hw83 n84 => ?_)
            have hs85 := ty_same_tr hs69 (n84 fz (hx_ok hfz (by decide)))
            have hf86 := hF _ _ (n84 pr_ (by decide)) hf70
            refine ax_go 1 (y := (86, [some (.ref o), some (.int p), some (.int b)], [.ref o], w77, 0, 0)) rfl trivial ?_
            refine hx_gf (l := 89) rfl rfl rfl ((n82 _ (hx_ne hG0 hG73 (by decide))).trans ((n66 _ (hx_ne hG0 hG57 (by decide))).trans g40)) e43 ?_
            refine ax_go 1 (y := (90, [some (.ref o), some (.int p), some (.int b)], [.ref p42, .ref p42], w77, 0, 0)) rfl trivial ?_
            refine hx_gf (l := 93) rfl rfl rfl ((n82 _ (hx_ne hG44 hG73 (by decide))).trans ((n66 _ (hx_ne hG44 hG57 (by decide))).trans g46)) e49 ?_
            refine hx_k (l := 94) (m := 1) rfl rfl (by decide) (fun z87 h88 => ?_)
            refine hx_add (l := 95) rfl rfl (fun z89 h90 => ?_)
            replace h90 := h90 (by omega) (by omega)
            refine hx_pf (q := (0, 0, 0, 0, 0, 8)) (s := 2) (l := 98) (v := .int z89) rfl rfl rfl (by decide) rfl rfl rfl hw83 hG44 ((n82 _ (hx_ne hG44 hG73 (by decide))).trans ((n66 _ (hx_ne hG44 hG57 (by decide))).trans g46)) trivial (hx_ti (G := G) (lo := 0) (hi := 8) (by omega) (by omega)) (fun w91 fs92 g93 e94 o95 n96 hw97 n98 => ?_)
            have hs99 := ty_same_tr hs85 (n98 fz (hx_ok hfz (by decide)))
            have hf100 := hF _ _ (n98 pr_ (by decide)) hf86
            refine ax_go 2 (y := (100, [some (.ref o), some (.int p), some (.int b)], [.ref o, .ref o], w91, 0, 0)) rfl trivial ?_
            refine hx_gf (l := 103) rfl rfl rfl ((n96 _ (hx_ne hG0 hG44 (by decide))).trans ((n82 _ (hx_ne hG0 hG73 (by decide))).trans ((n66 _ (hx_ne hG0 hG57 (by decide))).trans g40))) e43 ?_
            refine hx_gf (l := 106) rfl rfl rfl g93 e94 ?_
            refine hx_ci (l := 109) (as := [.ref o, .int z89]) rfl rfl (hx_iv (j := 115) (n := 1) (o := o) (r := []) rfl rfl ((n96 _ (hx_ne hG0 hG44 (by decide))).trans ((n82 _ (hx_ne hG0 hG73 (by decide))).trans ((n66 _ (hx_ne hG0 hG57 (by decide))).trans g40))) rfl) (cc_X8_settle_0 (fz := fz) hF  (fun q hq => (by decide +kernel : ∀ q ∈ fb_X8_hear, q ∈ fr_X8_settle_0) q (hfz q hq)) (d + 0)) hw97 hf100 ⟨(hx_tr (G := G) (s := 1) (b := 0) hG0 (by decide)), (ck_top_ok (G := G) z89), trivial⟩ (fun w101 z106 hw102 hf103 m104 a107 b108 u109 => ?_)
            have hs105 := ty_same_tr hs99 m104
            exact ax_ret rfl rfl trivial ⟨some (.int z106), _, rfl, hw102, hf103, hs105, (ck_top_ok (G := G) z106), trivial⟩
          · -- 46
            refine ax_go 1 (y := (47, [some (.ref o), some (.int p), some (.int b)], [.ref o], w28, 0, 0)) rfl trivial ?_
            refine hx_k (l := 49) (m := (-5)) rfl rfl (by decide) (fun z110 h111 => ?_)
            refine hx_ci (l := 52) (as := [.ref o, .int z110]) rfl rfl (hx_iv (j := 115) (n := 1) (o := o) (r := []) rfl rfl g40 rfl) (cc_X8_settle_0 (fz := fz) hF  (fun q hq => (by decide +kernel : ∀ q ∈ fb_X8_hear, q ∈ fr_X8_settle_0) q (hfz q hq)) (d + 0)) hw29 hf30 ⟨(hx_tr (G := G) (s := 1) (b := 0) hG0 (by decide)), (ck_top_ok (G := G) z110), trivial⟩ (fun w112 z117 hw113 hf114 m115 a118 b119 u120 => ?_)
            have hs116 := ty_same_tr hs32 m115
            exact ax_ret rfl rfl trivial ⟨some (.int z117), _, rfl, hw113, hf114, hs116, (ck_top_ok (G := G) z117), trivial⟩
        · -- 27
          refine ax_go 1 (y := (28, [some (.ref o), some (.int p), some (.int b)], [.ref o], w28, 0, 0)) rfl trivial ?_
          refine hx_k (l := 30) (m := (-2)) rfl rfl (by decide) (fun z121 h122 => ?_)
          obtain ⟨fs123, g124, -, q125⟩ := hx_obj hw29 hG0 (s := 1) rfl (by decide)
          refine hx_ci (l := 33) (as := [.ref o, .int z121]) rfl rfl (hx_iv (j := 115) (n := 1) (o := o) (r := []) rfl rfl g124 rfl) (cc_X8_settle_0 (fz := fz) hF  (fun q hq => (by decide +kernel : ∀ q ∈ fb_X8_hear, q ∈ fr_X8_settle_0) q (hfz q hq)) (d + 0)) hw29 hf30 ⟨(hx_tr (G := G) (s := 1) (b := 0) hG0 (by decide)), (ck_top_ok (G := G) z121), trivial⟩ (fun w126 z131 hw127 hf128 m129 a132 b133 u134 => ?_)
          have hs130 := ty_same_tr hs32 m129
          exact ax_ret rfl rfl trivial ⟨some (.int z131), _, rfl, hw127, hf128, hs130, (ck_top_ok (G := G) z131), trivial⟩
      · -- 10
        refine ax_go 1 (y := (11, [some (.ref o), some (.int p), some (.int b)], [.ref o], w, 0, 0)) rfl trivial ?_
        refine hx_k (l := 12) (m := (-1)) rfl rfl (by decide) (fun z135 h136 => ?_)
        obtain ⟨fs137, g138, -, q139⟩ := hx_obj hw hG0 (s := 1) rfl (by decide)
        refine hx_ci (l := 15) (as := [.ref o, .int z135]) rfl rfl (hx_iv (j := 115) (n := 1) (o := o) (r := []) rfl rfl g138 rfl) (cc_X8_settle_0 (fz := fz) hF  (fun q hq => (by decide +kernel : ∀ q ∈ fb_X8_hear, q ∈ fr_X8_settle_0) q (hfz q hq)) (d + 0)) hw hf ⟨(hx_tr (G := G) (s := 1) (b := 0) hG0 (by decide)), (ck_top_ok (G := G) z135), trivial⟩ (fun w140 z145 hw141 hf142 m143 a146 b147 u148 => ?_)
        have hs144 := ty_same_tr (ty_same_rf w) m143
        exact ax_ret rfl rfl trivial ⟨some (.int z145), _, rfl, hw141, hf142, hs144, (ck_top_ok (G := G) z145), trivial⟩
def fb_X7_openClause : List (Nat × Nat) := [(8, 3), (8, 5), (19, 999), (32, 999), (33, 999), (34, 999), (35, 999), (44, 999), (45, 999), (1, 0), (18, 999), (2, 11), (2, 14), (1, 15), (54, 11), (4, 2), (7, 9), (30, 13), (30, 34), (30, 2), (30, 22), (30, 23), (30, 24), (30, 25), (46, 999), (47, 999), (30, 35), (30, 36), (7, 0), (24, 999), (37, 999), (30, 4), (30, 5), (30, 6), (30, 8), (30, 9), (30, 10), (30, 11), (30, 14), (30, 15), (30, 16), (30, 17), (30, 18), (30, 19), (30, 20), (30, 21), (39, 999), (40, 999), (41, 999), (30, 30), (30, 42), (30, 43), (30, 44), (1, 1), (1, 3), (1, 10), (1, 13), (8, 0), (30, 49), (2, 15), (8, 1)]
set_option maxHeartbeats 8000000 in
theorem h_X7_openClause {ro : ab_R} {G : Nat → Nat} {fz : List (Nat × Nat)} {F : ab_W → Prop} (hF : ∀ w w', ty_same G pr_ w w' → F w → F w') (hfz : ∀ q ∈ fz, q ∈ fb_X7_openClause) (d : Nat) : ck_ct ro sp_ G F fz (ab_Ev ro ab_codes (d + 1)) 75 [(2, 9, 0)] none 0 0 := by
  refine ck_hand (d := d + 0) (by decide) (fun as w hw hf has => ?_)
  match as, has with
  | [v0], ⟨h0, _⟩ =>
    obtain ⟨o, rfl, _, hG0⟩ := ty_refn h0 rfl rfl
    replace hG0 : G o = 9 := hG0
    refine ⟨rfl, ?_⟩
    change ab_wp ro (ab_Ev ro ab_codes d) 7 false none ab_k_X7_openClause (fun o_1 => ∃ v w1, o_1 = (v, w1, 0, 0) ∧ ty_w sp_ G w1 ∧ F w1 ∧ ty_same G fz w w1 ∧ ck_res G none v ∧ ck_wit 0 0 [.ref o] v) (0, [some (.ref o), none], [], w, 0, 0)
    refine ax_go 1 (y := (1, [some (.ref o), none], [.ref o], w, 0, 0)) rfl trivial ?_
    obtain ⟨fs1, g2, -, q3⟩ := hx_obj hw hG0 (s := 9) rfl (by decide)
    obtain ⟨x4, e5, a6, b7⟩ := hx_fi (k := 3) (lo := 0) (hi := 12) q3 rfl
    refine hx_gf (l := 4) rfl rfl rfl g2 e5 ?_
    refine hx_k (l := 5) (m := 5) rfl rfl (by decide) (fun z8 h9 => ?_)
    refine hx_mul (l := 6) rfl rfl (fun z10 h11 => ?_)
    rw [h9] at h11
    replace h11 := h11 (by omega) (by omega)
    refine ax_go 2 (y := (8, [some (.ref o), some (.int z10)], [.int z10], w, 0, 0)) rfl trivial ?_
    refine hx_if_lt (l := 11) rfl rfl (fun h12 => ?_) (fun h12 => ?_)
    · -- 77
      exact ax_ret rfl rfl trivial ⟨none, _, rfl, hw, hf, (ty_same_rf w), trivial, trivial⟩
    · -- 11
      refine ax_go 1 (y := (12, [some (.ref o), some (.int z10)], [.int z10], w, 0, 0)) rfl trivial ?_
      refine hx_k (l := 13) (m := 5) rfl rfl (by decide) (fun z13 h14 => ?_)
      refine hx_add (l := 14) rfl rfl (fun z15 h16 => ?_)
      replace h16 := h16 (by omega) (by omega)
      refine ax_go 1 (y := (15, [some (.ref o), some (.int z10)], [.ref o, .int z15], w, 0, 0)) rfl trivial ?_
      obtain ⟨p17, e18, hG19⟩ := hx_fr (k := 1) (s := 26) q3 rfl
      refine hx_gf (l := 18) rfl rfl rfl g2 e18 ?_
      obtain ⟨f20, g21, r22⟩ := hx_row hw hG19 (s := 26) (kd := 0) (n := 60) rfl (by decide)
      refine hx_len (l := 19) rfl rfl g21 rfl (by omega) (fun z23 h24 => ?_)
      refine hx_ic_gt (l := 22) rfl rfl (fun h25 => ?_) (fun h25 => ?_)
      · -- 77
        exact ax_ret rfl rfl trivial ⟨none, _, rfl, hw, hf, (ty_same_rf w), trivial, trivial⟩
      · -- 22
        refine ax_go 1 (y := (23, [some (.ref o), some (.int z10)], [.ref o], w, 0, 0)) rfl trivial ?_
        refine hx_gf (l := 26) rfl rfl rfl g2 e18 ?_
        refine ax_go 1 (y := (27, [some (.ref o), some (.int z10)], [.int z10, .ref p17], w, 0, 0)) rfl trivial ?_
        refine hx_k (l := 28) (m := 0) rfl rfl (by decide) (fun z26 h27 => ?_)
        refine hx_add (l := 29) rfl rfl (fun z28 h29 => ?_)
        replace h29 := h29 (by omega) (by omega)
        refine hx_k (l := 30) (m := (-1)) rfl rfl (by decide) (fun z30 h31 => ?_)
        refine hx_is (s := 26) (l := 31) rfl rfl rfl hw hG19 g21 (by omega) (by omega) hx_sg0 (fun w32 f33 g34 e35 o36 n37 hw38 n39 => ?_)
        have hs40 := ty_same_tr (ty_same_rf w) (n39 fz (hx_ok hfz (by decide)))
        have hf41 := hF _ _ (n39 pr_ (by decide)) hf
        refine ax_go 1 (y := (32, [some (.ref o), some (.int z10)], [.ref o], w32, 0, 0)) rfl trivial ?_
        refine hx_gf (l := 35) rfl rfl rfl ((n37 _ (hx_ne hG0 hG19 (by decide))).trans g2) e18 ?_
        refine ax_go 1 (y := (36, [some (.ref o), some (.int z10)], [.int z10, .ref p17], w32, 0, 0)) rfl trivial ?_
        refine hx_k (l := 37) (m := 1) rfl rfl (by decide) (fun z42 h43 => ?_)
        refine hx_add (l := 38) rfl rfl (fun z44 h45 => ?_)
        replace h45 := h45 (by omega) (by omega)
        refine hx_k (l := 39) (m := 1) rfl rfl (by decide) (fun z46 h47 => ?_)
        refine hx_is (s := 26) (l := 40) rfl rfl rfl hw38 hG19 g34 (by omega) (by omega) hx_sg0 (fun w48 f49 g50 e51 o52 n53 hw54 n55 => ?_)
        have hs56 := ty_same_tr hs40 (n55 fz (hx_ok hfz (by decide)))
        have hf57 := hF _ _ (n55 pr_ (by decide)) hf41
        refine ax_go 1 (y := (41, [some (.ref o), some (.int z10)], [.ref o], w48, 0, 0)) rfl trivial ?_
        refine hx_gf (l := 44) rfl rfl rfl ((n53 _ (hx_ne hG0 hG19 (by decide))).trans ((n37 _ (hx_ne hG0 hG19 (by decide))).trans g2)) e18 ?_
        refine ax_go 1 (y := (45, [some (.ref o), some (.int z10)], [.int z10, .ref p17], w48, 0, 0)) rfl trivial ?_
        refine hx_k (l := 46) (m := 2) rfl rfl (by decide) (fun z58 h59 => ?_)
        refine hx_add (l := 47) rfl rfl (fun z60 h61 => ?_)
        replace h61 := h61 (by omega) (by omega)
        refine hx_k (l := 48) (m := (-1)) rfl rfl (by decide) (fun z62 h63 => ?_)
        refine hx_is (s := 26) (l := 49) rfl rfl rfl hw54 hG19 g50 (by omega) (by omega) hx_sg0 (fun w64 f65 g66 e67 o68 n69 hw70 n71 => ?_)
        have hs72 := ty_same_tr hs56 (n71 fz (hx_ok hfz (by decide)))
        have hf73 := hF _ _ (n71 pr_ (by decide)) hf57
        refine ax_go 1 (y := (50, [some (.ref o), some (.int z10)], [.ref o], w64, 0, 0)) rfl trivial ?_
        refine hx_gf (l := 53) rfl rfl rfl ((n69 _ (hx_ne hG0 hG19 (by decide))).trans ((n53 _ (hx_ne hG0 hG19 (by decide))).trans ((n37 _ (hx_ne hG0 hG19 (by decide))).trans g2))) e18 ?_
        refine ax_go 1 (y := (54, [some (.ref o), some (.int z10)], [.int z10, .ref p17], w64, 0, 0)) rfl trivial ?_
        refine hx_k (l := 55) (m := 3) rfl rfl (by decide) (fun z74 h75 => ?_)
        refine hx_add (l := 56) rfl rfl (fun z76 h77 => ?_)
        replace h77 := h77 (by omega) (by omega)
        refine hx_k (l := 57) (m := (-1)) rfl rfl (by decide) (fun z78 h79 => ?_)
        refine hx_is (s := 26) (l := 58) rfl rfl rfl hw70 hG19 g66 (by omega) (by omega) hx_sg0 (fun w80 f81 g82 e83 o84 n85 hw86 n87 => ?_)
        have hs88 := ty_same_tr hs72 (n87 fz (hx_ok hfz (by decide)))
        have hf89 := hF _ _ (n87 pr_ (by decide)) hf73
        refine ax_go 1 (y := (59, [some (.ref o), some (.int z10)], [.ref o], w80, 0, 0)) rfl trivial ?_
        refine hx_gf (l := 62) rfl rfl rfl ((n85 _ (hx_ne hG0 hG19 (by decide))).trans ((n69 _ (hx_ne hG0 hG19 (by decide))).trans ((n53 _ (hx_ne hG0 hG19 (by decide))).trans ((n37 _ (hx_ne hG0 hG19 (by decide))).trans g2)))) e18 ?_
        refine ax_go 1 (y := (63, [some (.ref o), some (.int z10)], [.int z10, .ref p17], w80, 0, 0)) rfl trivial ?_
        refine hx_k (l := 64) (m := 4) rfl rfl (by decide) (fun z90 h91 => ?_)
        refine hx_add (l := 65) rfl rfl (fun z92 h93 => ?_)
        replace h93 := h93 (by omega) (by omega)
        refine hx_k (l := 66) (m := (-1)) rfl rfl (by decide) (fun z94 h95 => ?_)
        refine hx_is (s := 26) (l := 67) rfl rfl rfl hw86 hG19 g82 (by omega) (by omega) hx_sg0 (fun w96 f97 g98 e99 o100 n101 hw102 n103 => ?_)
        have hs104 := ty_same_tr hs88 (n103 fz (hx_ok hfz (by decide)))
        have hf105 := hF _ _ (n103 pr_ (by decide)) hf89
        refine ax_go 2 (y := (69, [some (.ref o), some (.int z10)], [.ref o, .ref o], w96, 0, 0)) rfl trivial ?_
        refine hx_gf (l := 72) rfl rfl rfl ((n101 _ (hx_ne hG0 hG19 (by decide))).trans ((n85 _ (hx_ne hG0 hG19 (by decide))).trans ((n69 _ (hx_ne hG0 hG19 (by decide))).trans ((n53 _ (hx_ne hG0 hG19 (by decide))).trans ((n37 _ (hx_ne hG0 hG19 (by decide))).trans g2))))) e5 ?_
        refine hx_k (l := 73) (m := 1) rfl rfl (by decide) (fun z106 h107 => ?_)
        refine hx_add (l := 74) rfl rfl (fun z108 h109 => ?_)
        replace h109 := h109 (by omega) (by omega)
        refine hx_pf (q := (0, 0, 0, 0, 0, 12)) (s := 9) (l := 77) (v := .int z108) rfl rfl rfl (by decide) rfl rfl rfl hw102 hG0 ((n101 _ (hx_ne hG0 hG19 (by decide))).trans ((n85 _ (hx_ne hG0 hG19 (by decide))).trans ((n69 _ (hx_ne hG0 hG19 (by decide))).trans ((n53 _ (hx_ne hG0 hG19 (by decide))).trans ((n37 _ (hx_ne hG0 hG19 (by decide))).trans g2))))) trivial (hx_ti (G := G) (lo := 0) (hi := 12) (by omega) (by omega)) (fun w110 fs111 g112 e113 o114 n115 hw116 n117 => ?_)
        have hs118 := ty_same_tr hs104 (n117 fz (hx_ok hfz (by decide)))
        have hf119 := hF _ _ (n117 pr_ (by decide)) hf105
        exact ax_ret rfl rfl trivial ⟨none, _, rfl, hw116, hf119, hs118, trivial, trivial⟩
def fb_X5_emit : List (Nat × Nat) := [(8, 3), (8, 5), (19, 999), (32, 999), (33, 999), (34, 999), (35, 999), (44, 999), (45, 999), (1, 0), (18, 999), (2, 11), (2, 14), (1, 15), (54, 11), (4, 2), (7, 9), (30, 13), (30, 34), (30, 2), (30, 22), (30, 23), (30, 24), (30, 25), (46, 999), (47, 999), (30, 35), (30, 36), (7, 0), (24, 999), (37, 999), (30, 4), (30, 5), (30, 6), (30, 8), (30, 9), (30, 10), (30, 11), (30, 14), (30, 15), (30, 16), (30, 17), (30, 18), (30, 19), (30, 20), (30, 21), (39, 999), (40, 999), (41, 999), (30, 30), (30, 42), (30, 43), (30, 44), (1, 1), (1, 3), (1, 10), (1, 13), (8, 0), (30, 49), (2, 15), (8, 1)]
set_option maxHeartbeats 8000000 in
theorem h_X5_emit {ro : ab_R} {G : Nat → Nat} {fz : List (Nat × Nat)} {F : ab_W → Prop} (hF : ∀ w w', ty_same G pr_ w w' → F w → F w') (hfz : ∀ q ∈ fz, q ∈ fb_X5_emit) (d : Nat) : ck_ct ro sp_ G F fz (ab_Ev ro ab_codes (d + 1)) 66 [(2, 8, 0), (0, (-2147483648), 2147483647), (0, (-2147483648), 2147483647)] (some (0, 0, 436)) 0 0 := by
  refine ck_hand (d := d + 0) (by decide) (fun as w hw hf has => ?_)
  match as, has with
  | [v0, v1, v2], ⟨h0, h1, h2, _⟩ =>
    obtain ⟨o, rfl, _, hG0⟩ := ty_refn h0 rfl rfl
    replace hG0 : G o = 8 := hG0
    obtain ⟨a, rfl, hl1, hh1⟩ := ty_int h1 rfl
    replace hl1 : ((-2147483648) : Int) ≤ a.toInt := hl1
    replace hh1 : a.toInt ≤ 2147483647 := hh1
    obtain ⟨b, rfl, hl2, hh2⟩ := ty_int h2 rfl
    replace hl2 : ((-2147483648) : Int) ≤ b.toInt := hl2
    replace hh2 : b.toInt ≤ 2147483647 := hh2
    refine ⟨rfl, ?_⟩
    change ab_wp ro (ab_Ev ro ab_codes d) 5 false (some .int) ab_k_X5_emit (fun o_1 => ∃ v w1, o_1 = (v, w1, 0, 0) ∧ ty_w sp_ G w1 ∧ F w1 ∧ ty_same G fz w w1 ∧ ck_res G (some (0, 0, 436)) v ∧ ck_wit 0 0 [.ref o, .int a, .int b] v) (0, [some (.ref o), some (.int a), some (.int b), none], [], w, 0, 0)
    refine ax_go 1 (y := (1, [some (.ref o), some (.int a), some (.int b), none], [.ref o], w, 0, 0)) rfl trivial ?_
    obtain ⟨fs1, g2, -, q3⟩ := hx_obj hw hG0 (s := 8) rfl (by decide)
    obtain ⟨p4, e5, hG6⟩ := hx_fr (k := 1) (s := 9) q3 rfl
    refine hx_gf (l := 4) rfl rfl rfl g2 e5 ?_
    obtain ⟨fs7, g8, -, q9⟩ := hx_obj hw hG6 (s := 9) rfl (by decide)
    obtain ⟨x10, e11, a12, b13⟩ := hx_fi (k := 2) (lo := 0) (hi := 436) q9 rfl
    refine hx_gf (l := 7) rfl rfl rfl g8 e11 ?_
    refine ax_go 3 (y := (10, [some (.ref o), some (.int a), some (.int b), some (.int x10)], [.ref o, .int x10], w, 0, 0)) rfl trivial ?_
    refine hx_gf (l := 13) rfl rfl rfl g2 e5 ?_
    obtain ⟨p14, e15, hG16⟩ := hx_fr (k := 0) (s := 25) q9 rfl
    refine hx_gf (l := 16) rfl rfl rfl g8 e15 ?_
    obtain ⟨f17, g18, r19⟩ := hx_row hw hG16 (s := 25) (kd := 0) (n := 436) rfl (by decide)
    refine hx_len (l := 17) rfl rfl g18 rfl (by omega) (fun z20 h21 => ?_)
    refine hx_ic_ge (l := 20) rfl rfl (fun h22 => ?_) (fun h22 => ?_)
    · -- 47
      refine ax_go 1 (y := (48, [some (.ref o), some (.int a), some (.int b), some (.int x10)], [.int x10], w, 0, 0)) rfl trivial ?_
      exact ax_ret rfl rfl trivial ⟨some (.int x10), _, rfl, hw, hf, (ty_same_rf w), (hx_ti (G := G) (lo := 0) (hi := 436) (by omega) (by omega)), trivial⟩
    · -- 20
      refine ax_go 1 (y := (21, [some (.ref o), some (.int a), some (.int b), some (.int x10)], [.ref o], w, 0, 0)) rfl trivial ?_
      refine hx_gf (l := 24) rfl rfl rfl g2 e5 ?_
      refine hx_gf (l := 27) rfl rfl rfl g8 e15 ?_
      refine ax_go 2 (y := (29, [some (.ref o), some (.int a), some (.int b), some (.int x10)], [.int b, .int x10, .ref p14], w, 0, 0)) rfl trivial ?_
      refine hx_k (l := 30) (m := 4) rfl rfl (by decide) (fun z23 h24 => ?_)
      refine hx_any (l := 31) rfl rfl (fun z25 => ?_)
      refine ax_go 1 (y := (32, [some (.ref o), some (.int a), some (.int b), some (.int x10)], [.int a, .int z25, .int x10, .ref p14], w, 0, 0)) rfl trivial ?_
      refine hx_any (l := 33) rfl rfl (fun z26 => ?_)
      refine hx_is (s := 25) (l := 34) rfl rfl rfl hw hG16 g18 (by omega) (by omega) hx_sg0 (fun w27 f28 g29 e30 o31 n32 hw33 n34 => ?_)
      have hs35 := ty_same_tr (ty_same_rf w) (n34 fz (hx_ok hfz (by decide)))
      have hf36 := hF _ _ (n34 pr_ (by decide)) hf
      refine ax_go 1 (y := (35, [some (.ref o), some (.int a), some (.int b), some (.int x10)], [.ref o], w27, 0, 0)) rfl trivial ?_
      refine hx_gf (l := 38) rfl rfl rfl ((n32 _ (hx_ne hG0 hG16 (by decide))).trans g2) e5 ?_
      refine ax_go 1 (y := (39, [some (.ref o), some (.int a), some (.int b), some (.int x10)], [.ref p4, .ref p4], w27, 0, 0)) rfl trivial ?_
      refine hx_gf (l := 42) rfl rfl rfl ((n32 _ (hx_ne hG6 hG16 (by decide))).trans g8) e11 ?_
      refine hx_k (l := 43) (m := 1) rfl rfl (by decide) (fun z37 h38 => ?_)
      refine hx_add (l := 44) rfl rfl (fun z39 h40 => ?_)
      replace h40 := h40 (by omega) (by omega)
      refine hx_pf (q := (0, 0, 0, 0, 0, 436)) (s := 9) (l := 47) (v := .int z39) rfl rfl rfl (by decide) rfl rfl rfl hw33 hG6 ((n32 _ (hx_ne hG6 hG16 (by decide))).trans g8) trivial (hx_ti (G := G) (lo := 0) (hi := 436) (by omega) (by omega)) (fun w41 fs42 g43 e44 o45 n46 hw47 n48 => ?_)
      have hs49 := ty_same_tr hs35 (n48 fz (hx_ok hfz (by decide)))
      have hf50 := hF _ _ (n48 pr_ (by decide)) hf36
      refine ax_go 1 (y := (48, [some (.ref o), some (.int a), some (.int b), some (.int x10)], [.int x10], w41, 0, 0)) rfl trivial ?_
      exact ax_ret rfl rfl trivial ⟨some (.int x10), _, rfl, hw47, hf50, hs49, (hx_ti (G := G) (lo := 0) (hi := 436) (by omega) (by omega)), trivial⟩
