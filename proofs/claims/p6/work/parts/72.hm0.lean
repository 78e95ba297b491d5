/-! walks by program: the reference -/
def fb_hp_X9_lies : List (Nat × Nat) := [(8, 3), (8, 5), (19, 999), (32, 999), (33, 999), (34, 999), (35, 999), (44, 999), (45, 999), (1, 0), (18, 999), (2, 11), (2, 14), (1, 15), (54, 11), (4, 2), (7, 9), (30, 13), (30, 34), (30, 2), (30, 22), (30, 23), (30, 24), (30, 25), (46, 999), (47, 999), (30, 35), (30, 36)]
theorem hp_X9_lies {ro : ab_R} {G : Nat → Nat} {fz : List (Nat × Nat)} {F : ab_W → Prop} (hF : ∀ w w', ty_same G pr_ w w' → F w → F w') (hfz : ∀ q ∈ fz, q ∈ fb_hp_X9_lies) (d : Nat) : hx_ct ro sp_ G F fz (ab_Ev ro ab_codes (d + 1)) 120 [(0, (-2147483648), 2147483647), (0, (-2147483648), 2147483647), (0, (-2147483648), 2147483647)] (some (0, 0, 1)) (fun _ _ => True) (fun as w v w1 => w1 = w ∧ ∀ p a b z : Int32, as = [.int p, .int a, .int b] → v = some (.int z) → ((z.toInt ≠ 0 → a.toInt ≤ p.toInt ∧ p.toInt ≤ b.toInt) ∧ (a.toInt ≤ p.toInt ∧ p.toInt ≤ b.toInt → z.toInt = 1))) := by
  refine hx_hand (d := d + 0) (by decide) (fun as w hw hf has hP => ?_)
  match as, has with
  | [v0, v1, v2], ⟨h0, h1, h2, _⟩ =>
    obtain ⟨p, rfl, hl0, hh0⟩ := ty_int h0 rfl
    replace hl0 : ((-2147483648) : Int) ≤ p.toInt := hl0
    replace hh0 : p.toInt ≤ 2147483647 := hh0
    obtain ⟨a, rfl, hl1, hh1⟩ := ty_int h1 rfl
    replace hl1 : ((-2147483648) : Int) ≤ a.toInt := hl1
    replace hh1 : a.toInt ≤ 2147483647 := hh1
    obtain ⟨b, rfl, hl2, hh2⟩ := ty_int h2 rfl
    replace hl2 : ((-2147483648) : Int) ≤ b.toInt := hl2
    replace hh2 : b.toInt ≤ 2147483647 := hh2
    refine ⟨rfl, ?_⟩
    change ab_wp ro (ab_Ev ro ab_codes d) 9 false (some .boolean) ab_k_X9_lies (fun o_1 => ∃ v w1, o_1 = (v, w1, 0, 0) ∧ ty_w sp_ G w1 ∧ F w1 ∧ ty_same G fz w w1 ∧ ck_res G (some (0, 0, 1)) v ∧ (fun as w v w1 => w1 = w ∧ ∀ p a b z : Int32, as = [.int p, .int a, .int b] → v = some (.int z) → ((z.toInt ≠ 0 → a.toInt ≤ p.toInt ∧ p.toInt ≤ b.toInt) ∧ (a.toInt ≤ p.toInt ∧ p.toInt ≤ b.toInt → z.toInt = 1))) ([.int p, .int a, .int b] : List Value) w v w1) (0, [some (.int p), some (.int a), some (.int b)], [], w, 0, 0)
    refine ax_go 2 (y := (2, [some (.int p), some (.int a), some (.int b)], [.int a, .int p], w, 0, 0)) rfl trivial ?_
    refine hx_ic_lt (l := 5) rfl rfl (fun h1 => ?_) (fun h1 => ?_)
    · -- 14
      refine hx_k (l := 15) (m := 0) rfl rfl (by decide) (fun z2 h3 => ?_)
      exact ax_ret rfl rfl ⟨hx_01 (by omega) (by omega), trivial⟩ ⟨some (.int z2), _, rfl, hw, hf, (ty_same_rf w), (hx_ti (G := G) (lo := 0) (hi := 1) (by omega) (by omega)), ⟨rfl, fun p1 q1 r1 z1 h1 h2 => by cases h1; cases h2; exact ⟨fun hz => ⟨by omega, by omega⟩, fun hz => by omega⟩⟩⟩
    · -- 5
      refine ax_go 2 (y := (7, [some (.int p), some (.int a), some (.int b)], [.int b, .int p], w, 0, 0)) rfl trivial ?_
      refine hx_ic_gt (l := 10) rfl rfl (fun h4 => ?_) (fun h4 => ?_)
      · -- 14
        refine hx_k (l := 15) (m := 0) rfl rfl (by decide) (fun z5 h6 => ?_)
        exact ax_ret rfl rfl ⟨hx_01 (by omega) (by omega), trivial⟩ ⟨some (.int z5), _, rfl, hw, hf, (ty_same_rf w), (hx_ti (G := G) (lo := 0) (hi := 1) (by omega) (by omega)), ⟨rfl, fun p1 q1 r1 z1 h1 h2 => by cases h1; cases h2; exact ⟨fun hz => ⟨by omega, by omega⟩, fun hz => by omega⟩⟩⟩
      · -- 10
        refine hx_k (l := 11) (m := 1) rfl rfl (by decide) (fun z7 h8 => ?_)
        refine ax_go 1 (y := (15, [some (.int p), some (.int a), some (.int b)], [.int z7], w, 0, 0)) rfl trivial ?_
        exact ax_ret rfl rfl ⟨hx_01 (by omega) (by omega), trivial⟩ ⟨some (.int z7), _, rfl, hw, hf, (ty_same_rf w), (hx_ti (G := G) (lo := 0) (hi := 1) (by omega) (by omega)), ⟨rfl, fun p1 q1 r1 z1 h1 h2 => by cases h1; cases h2; exact ⟨fun hz => ⟨by omega, by omega⟩, fun hz => by omega⟩⟩⟩
def fb_hp_X9_lesser : List (Nat × Nat) := [(8, 3), (8, 5), (19, 999), (32, 999), (33, 999), (34, 999), (35, 999), (44, 999), (45, 999), (1, 0), (18, 999), (2, 11), (2, 14), (1, 15), (54, 11), (4, 2), (7, 9), (30, 13), (30, 34), (30, 2), (30, 22), (30, 23), (30, 24), (30, 25), (46, 999), (47, 999), (30, 35), (30, 36)]
theorem hp_X9_lesser {ro : ab_R} {G : Nat → Nat} {fz : List (Nat × Nat)} {F : ab_W → Prop} (hF : ∀ w w', ty_same G pr_ w w' → F w → F w') (hfz : ∀ q ∈ fz, q ∈ fb_hp_X9_lesser) (d : Nat) : hx_ct ro sp_ G F fz (ab_Ev ro ab_codes (d + 1)) 121 [(0, (-2147483648), 2147483647), (0, (-2147483648), 2147483647)] (some (0, (-2147483648), 2147483647)) (fun _ _ => True) (fun as w v w1 => w1 = w ∧ ∀ a b z : Int32, as = [.int a, .int b] → v = some (.int z) → ((a.toInt ≤ b.toInt → z.toInt = a.toInt) ∧ (b.toInt < a.toInt → z.toInt = b.toInt))) := by
  refine hx_hand (d := d + 0) (by decide) (fun as w hw hf has hP => ?_)
  match as, has with
  | [v0, v1], ⟨h0, h1, _⟩ =>
    obtain ⟨a, rfl, hl0, hh0⟩ := ty_int h0 rfl
    replace hl0 : ((-2147483648) : Int) ≤ a.toInt := hl0
    replace hh0 : a.toInt ≤ 2147483647 := hh0
    obtain ⟨b, rfl, hl1, hh1⟩ := ty_int h1 rfl
    replace hl1 : ((-2147483648) : Int) ≤ b.toInt := hl1
    replace hh1 : b.toInt ≤ 2147483647 := hh1
    refine ⟨rfl, ?_⟩
    change ab_wp ro (ab_Ev ro ab_codes d) 9 false (some .int) ab_k_X9_lesser (fun o_1 => ∃ v w1, o_1 = (v, w1, 0, 0) ∧ ty_w sp_ G w1 ∧ F w1 ∧ ty_same G fz w w1 ∧ ck_res G (some (0, (-2147483648), 2147483647)) v ∧ (fun as w v w1 => w1 = w ∧ ∀ a b z : Int32, as = [.int a, .int b] → v = some (.int z) → ((a.toInt ≤ b.toInt → z.toInt = a.toInt) ∧ (b.toInt < a.toInt → z.toInt = b.toInt))) ([.int a, .int b] : List Value) w v w1) (0, [some (.int a), some (.int b)], [], w, 0, 0)
    refine ax_go 2 (y := (2, [some (.int a), some (.int b)], [.int b, .int a], w, 0, 0)) rfl trivial ?_
    refine hx_ic_ge (l := 5) rfl rfl (fun h1 => ?_) (fun h1 => ?_)
    · -- 9
      refine ax_go 1 (y := (10, [some (.int a), some (.int b)], [.int b], w, 0, 0)) rfl trivial ?_
      exact ax_ret rfl rfl trivial ⟨some (.int b), _, rfl, hw, hf, (ty_same_rf w), (ck_top_ok (G := G) b), ⟨rfl, fun p1 q1 z1 h1 h2 => by cases h1; cases h2; exact ⟨fun hz => by omega, fun hz => by omega⟩⟩⟩
    · -- 5
      refine ax_go 2 (y := (10, [some (.int a), some (.int b)], [.int a], w, 0, 0)) rfl trivial ?_
      exact ax_ret rfl rfl trivial ⟨some (.int a), _, rfl, hw, hf, (ty_same_rf w), (ck_top_ok (G := G) a), ⟨rfl, fun p1 q1 z1 h1 h2 => by cases h1; cases h2; exact ⟨fun hz => by omega, fun hz => by omega⟩⟩⟩
def fb_hp_X9_greater : List (Nat × Nat) := [(8, 3), (8, 5), (19, 999), (32, 999), (33, 999), (34, 999), (35, 999), (44, 999), (45, 999), (1, 0), (18, 999), (2, 11), (2, 14), (1, 15), (54, 11), (4, 2), (7, 9), (30, 13), (30, 34), (30, 2), (30, 22), (30, 23), (30, 24), (30, 25), (46, 999), (47, 999), (30, 35), (30, 36)]
theorem hp_X9_greater {ro : ab_R} {G : Nat → Nat} {fz : List (Nat × Nat)} {F : ab_W → Prop} (hF : ∀ w w', ty_same G pr_ w w' → F w → F w') (hfz : ∀ q ∈ fz, q ∈ fb_hp_X9_greater) (d : Nat) : hx_ct ro sp_ G F fz (ab_Ev ro ab_codes (d + 1)) 122 [(0, (-2147483648), 2147483647), (0, (-2147483648), 2147483647)] (some (0, (-2147483648), 2147483647)) (fun _ _ => True) (fun as w v w1 => w1 = w ∧ ∀ a b z : Int32, as = [.int a, .int b] → v = some (.int z) → ((b.toInt ≤ a.toInt → z.toInt = a.toInt) ∧ (a.toInt < b.toInt → z.toInt = b.toInt))) := by
  refine hx_hand (d := d + 0) (by decide) (fun as w hw hf has hP => ?_)
  match as, has with
  | [v0, v1], ⟨h0, h1, _⟩ =>
    obtain ⟨a, rfl, hl0, hh0⟩ := ty_int h0 rfl
    replace hl0 : ((-2147483648) : Int) ≤ a.toInt := hl0
    replace hh0 : a.toInt ≤ 2147483647 := hh0
    obtain ⟨b, rfl, hl1, hh1⟩ := ty_int h1 rfl
    replace hl1 : ((-2147483648) : Int) ≤ b.toInt := hl1
    replace hh1 : b.toInt ≤ 2147483647 := hh1
    refine ⟨rfl, ?_⟩
    change ab_wp ro (ab_Ev ro ab_codes d) 9 false (some .int) ab_k_X9_greater (fun o_1 => ∃ v w1, o_1 = (v, w1, 0, 0) ∧ ty_w sp_ G w1 ∧ F w1 ∧ ty_same G fz w w1 ∧ ck_res G (some (0, (-2147483648), 2147483647)) v ∧ (fun as w v w1 => w1 = w ∧ ∀ a b z : Int32, as = [.int a, .int b] → v = some (.int z) → ((b.toInt ≤ a.toInt → z.toInt = a.toInt) ∧ (a.toInt < b.toInt → z.toInt = b.toInt))) ([.int a, .int b] : List Value) w v w1) (0, [some (.int a), some (.int b)], [], w, 0, 0)
    refine ax_go 2 (y := (2, [some (.int a), some (.int b)], [.int b, .int a], w, 0, 0)) rfl trivial ?_
    refine hx_ic_le (l := 5) rfl rfl (fun h1 => ?_) (fun h1 => ?_)
    · -- 9
      refine ax_go 1 (y := (10, [some (.int a), some (.int b)], [.int b], w, 0, 0)) rfl trivial ?_
      exact ax_ret rfl rfl trivial ⟨some (.int b), _, rfl, hw, hf, (ty_same_rf w), (ck_top_ok (G := G) b), ⟨rfl, fun p1 q1 z1 h1 h2 => by cases h1; cases h2; exact ⟨fun hz => by omega, fun hz => by omega⟩⟩⟩
    · -- 5
      refine ax_go 2 (y := (10, [some (.int a), some (.int b)], [.int a], w, 0, 0)) rfl trivial ?_
      exact ax_ret rfl rfl trivial ⟨some (.int a), _, rfl, hw, hf, (ty_same_rf w), (ck_top_ok (G := G) a), ⟨rfl, fun p1 q1 z1 h1 h2 => by cases h1; cases h2; exact ⟨fun hz => by omega, fun hz => by omega⟩⟩⟩
def fb_hp_X9_isParish : List (Nat × Nat) := [(8, 3), (8, 5), (19, 999), (32, 999), (33, 999), (34, 999), (35, 999), (44, 999), (45, 999), (1, 0), (18, 999), (2, 11), (2, 14), (1, 15), (54, 11), (4, 2), (7, 9), (30, 13), (30, 34), (30, 2), (30, 22), (30, 23), (30, 24), (30, 25), (46, 999), (47, 999), (30, 35), (30, 36)]
theorem hp_X9_isParish {ro : ab_R} {G : Nat → Nat} {fz : List (Nat × Nat)} {F : ab_W → Prop} (hF : ∀ w w', ty_same G prM w w' → F w → F w') (hfz : ∀ q ∈ fz, q ∈ fb_hp_X9_isParish) (d : Nat) : hx_ct ro sp_ G (F9 G F) fz (ab_Ev ro ab_codes (d + 2)) 133 [(2, 30, 0), (0, (-2147483648), 2147483647)] (some (0, 0, 1)) (fun _ _ => True) (fun as w v w1 => w1 = w ∧ ∀ (o : Nat) (p : Int32) (q : Nat) (f : Nat → Int32) (z : Int32), as = [.ref o, .int p] → hx_has w o 9 2 (.ref q) → w[q]? = some (.inl (0, 5721, .inl f)) → v = some (.int z) → ((z.toInt ≠ 0 → 0 ≤ p.toInt ∧ p.toInt < (f 110).toInt) ∧ (0 ≤ p.toInt ∧ p.toInt < (f 110).toInt → z.toInt = 1))) := by
  have hFF := F9_same hF
  refine hx_hand (d := d + 1) (by decide) (fun as w hw hf has hP => ?_)
  match as, has with
  | [v0, v1], ⟨h0, h1, _⟩ =>
    obtain ⟨o, rfl, _, hG0⟩ := ty_refn h0 rfl rfl
    replace hG0 : G o = 30 := hG0
    obtain ⟨p, rfl, hl1, hh1⟩ := ty_int h1 rfl
    replace hl1 : ((-2147483648) : Int) ≤ p.toInt := hl1
    replace hh1 : p.toInt ≤ 2147483647 := hh1
    refine ⟨rfl, ?_⟩
    change ab_wp ro (ab_Ev ro ab_codes (d + 1)) 9 false (some .boolean) ab_k_X9_isParish (fun o_1 => ∃ v w1, o_1 = (v, w1, 0, 0) ∧ ty_w sp_ G w1 ∧ (F9 G F) w1 ∧ ty_same G fz w w1 ∧ ck_res G (some (0, 0, 1)) v ∧ (fun as w v w1 => w1 = w ∧ ∀ (o : Nat) (p : Int32) (q : Nat) (f : Nat → Int32) (z : Int32), as = [.ref o, .int p] → hx_has w o 9 2 (.ref q) → w[q]? = some (.inl (0, 5721, .inl f)) → v = some (.int z) → ((z.toInt ≠ 0 → 0 ≤ p.toInt ∧ p.toInt < (f 110).toInt) ∧ (0 ≤ p.toInt ∧ p.toInt < (f 110).toInt → z.toInt = 1))) ([.ref o, .int p] : List Value) w v w1) (0, [some (.ref o), some (.int p)], [], w, 0, 0)
    refine ax_go 1 (y := (1, [some (.ref o), some (.int p)], [.int p], w, 0, 0)) rfl trivial ?_
    refine hx_k (l := 2) (m := 0) rfl rfl (by decide) (fun z1 h2 => ?_)
    refine ax_go 1 (y := (3, [some (.ref o), some (.int p)], [.ref o, .int z1, .int p], w, 0, 0)) rfl trivial ?_
    obtain ⟨fs3, g4, _, q5⟩ := hx_obj hw hG0 (s := 30) rfl (by decide)
    obtain ⟨p6, e7, hG8⟩ := hx_fr (k := 2) (s := 32) q5 rfl
    refine hx_gf (l := 6) rfl rfl rfl g4 e7 ?_
    refine hx_k (l := 8) (m := 110) rfl rfl (by decide) (fun z9 h10 => ?_)
    obtain ⟨f11, g12, r13⟩ := hx_row hw hG8 (s := 32) (kd := 0) (n := 5721) rfl (by decide)
    refine hx_il (l := 9) rfl rfl g12 (by omega) (by omega) (fun z14 h15 => ?_)
    have b16 := ((hf.1.1 _ _ hG8 g12).1 z9.toInt.toNat (by omega)).2.2.2.2.1 (by omega)
    rw [← h15] at b16
    rw [show z9.toInt.toNat = 110 by omega] at h15
    replace h15 := congrArg Int32.toInt h15
    refine hx_k (l := 10) (m := 1) rfl rfl (by decide) (fun z17 h18 => ?_)
    refine hx_sub (l := 11) rfl rfl (fun z19 h20 => ?_)
    replace h20 := h20 (by omega) (by omega)
    refine hx_pi (l := 14) (as := [.int p, .int z1, .int z19]) rfl rfl rfl (hp_X9_lies (fz := fz) hFF (fun q hq => (by decide +kernel : ∀ q ∈ fb_hp_X9_isParish, q ∈ fb_hp_X9_lies) q (hfz q hq)) (d + 0)) hw hf ⟨(ck_top_ok (G := G) p), (ck_top_ok (G := G) z1), (ck_top_ok (G := G) z19), trivial⟩ trivial (fun w21 z26 hw22 hf23 m24 a27 b28 u29 => ?_)
    rw [u29.1]
    have u30 := u29.2 _ _ _ _ rfl rfl
    exact ax_ret rfl rfl ⟨hx_01 (by omega) (by omega), trivial⟩ ⟨some (.int z26), _, rfl, hw, hf, (ty_same_rf w), (hx_ti (G := G) (lo := 0) (hi := 1) (by omega) (by omega)), ⟨rfl, fun o1 p1 q1 f1 z1 h1 h2 h3 h4 => by cases h1; cases h4; obtain ⟨fs1, g1, e1⟩ := h2; obtain rfl := hx_inj g4 g1; cases e7.symm.trans e1; obtain rfl := hx_injr g12 h3; exact ⟨fun hz => ⟨by omega, by omega⟩, fun hz => by omega⟩⟩⟩
def fb_X9_isParish : List (Nat × Nat) := [(8, 3), (8, 5), (19, 999), (32, 999), (33, 999), (34, 999), (35, 999), (44, 999), (45, 999), (1, 0), (18, 999), (2, 11), (2, 14), (1, 15), (54, 11), (4, 2), (7, 9), (30, 13), (30, 34), (30, 2), (30, 22), (30, 23), (30, 24), (30, 25), (46, 999), (47, 999), (30, 35), (30, 36)]
theorem h_X9_isParish {ro : ab_R} {G : Nat → Nat} {fz : List (Nat × Nat)} {F : ab_W → Prop} (hF : ∀ w w', ty_same G prM w w' → F w → F w') (hfz : ∀ q ∈ fz, q ∈ fb_X9_isParish) (d : Nat) : ck_ct ro sp_ G (F9 G F) fz (ab_Ev ro ab_codes (d + 2)) 133 [(2, 30, 0), (0, (-2147483648), 2147483647)] (some (0, 0, 1)) 2 10000000001009 := by
  have hFF := F9_same hF
  refine ck_hand (d := d + 1) (by decide) (fun as w hw hf has => ?_)
  match as, has with
  | [v0, v1], ⟨h0, h1, _⟩ =>
    obtain ⟨o, rfl, _, hG0⟩ := ty_refn h0 rfl rfl
    replace hG0 : G o = 30 := hG0
    obtain ⟨p, rfl, hl1, hh1⟩ := ty_int h1 rfl
    replace hl1 : ((-2147483648) : Int) ≤ p.toInt := hl1
    replace hh1 : p.toInt ≤ 2147483647 := hh1
    refine ⟨rfl, ?_⟩
    change ab_wp ro (ab_Ev ro ab_codes (d + 1)) 9 false (some .boolean) ab_k_X9_isParish (fun o_1 => ∃ v w1, o_1 = (v, w1, 0, 0) ∧ ty_w sp_ G w1 ∧ (F9 G F) w1 ∧ ty_same G fz w w1 ∧ ck_res G (some (0, 0, 1)) v ∧ ck_wit 2 10000000001009 [.ref o, .int p] v) (0, [some (.ref o), some (.int p)], [], w, 0, 0)
    refine ax_go 1 (y := (1, [some (.ref o), some (.int p)], [.int p], w, 0, 0)) rfl trivial ?_
    refine hx_k (l := 2) (m := 0) rfl rfl (by decide) (fun z1 h2 => ?_)
    refine ax_go 1 (y := (3, [some (.ref o), some (.int p)], [.ref o, .int z1, .int p], w, 0, 0)) rfl trivial ?_
    obtain ⟨fs3, g4, _, q5⟩ := hx_obj hw hG0 (s := 30) rfl (by decide)
    obtain ⟨p6, e7, hG8⟩ := hx_fr (k := 2) (s := 32) q5 rfl
    refine hx_gf (l := 6) rfl rfl rfl g4 e7 ?_
    refine hx_k (l := 8) (m := 110) rfl rfl (by decide) (fun z9 h10 => ?_)
    obtain ⟨f11, g12, r13⟩ := hx_row hw hG8 (s := 32) (kd := 0) (n := 5721) rfl (by decide)
    refine hx_il (l := 9) rfl rfl g12 (by omega) (by omega) (fun z14 h15 => ?_)
    have b16 := ((hf.1.1 _ _ hG8 g12).1 z9.toInt.toNat (by omega)).2.2.2.2.1 (by omega)
    rw [← h15] at b16
    refine hx_k (l := 10) (m := 1) rfl rfl (by decide) (fun z17 h18 => ?_)
    refine hx_sub (l := 11) rfl rfl (fun z19 h20 => ?_)
    replace h20 := h20 (by omega) (by omega)
    refine hx_pi (l := 14) (as := [.int p, .int z1, .int z19]) rfl rfl rfl (hp_X9_lies (fz := fz) hFF (fun q hq => (by decide +kernel : ∀ q ∈ fb_X9_isParish, q ∈ fb_hp_X9_lies) q (hfz q hq)) (d + 0)) hw hf ⟨(ck_top_ok (G := G) p), (ck_top_ok (G := G) z1), (ck_top_ok (G := G) z19), trivial⟩ trivial (fun w21 z26 hw22 hf23 m24 a27 b28 u29 => ?_)
    rw [u29.1]
    have u30 := u29.2 _ _ _ _ rfl rfl
    exact ax_ret rfl rfl ⟨hx_01 (by omega) (by omega), trivial⟩ ⟨some (.int z26), _, rfl, hw, hf, (ty_same_rf w), (hx_ti (G := G) (lo := 0) (hi := 1) (by omega) (by omega)), (hx_mkw (a := 1) (lo := 0) (hi := 9) rfl rfl (fun hz => ⟨by omega, by omega⟩))⟩
def fb_hp_X9_laysAside : List (Nat × Nat) := [(8, 3), (8, 5), (19, 999), (32, 999), (33, 999), (34, 999), (44, 999), (45, 999), (1, 0), (18, 999), (2, 11), (2, 14), (1, 15), (54, 11), (4, 2), (7, 9), (30, 13), (30, 34), (30, 2), (30, 22), (30, 23), (30, 24), (30, 25), (46, 999), (47, 999), (30, 35), (30, 36)]
theorem hp_X9_laysAside {ro : ab_R} {G : Nat → Nat} {fz : List (Nat × Nat)} {F : ab_W → Prop} (hF : ∀ w w', ty_same G prM w w' → F w → F w') (hfz : ∀ q ∈ fz, q ∈ fb_hp_X9_laysAside) (d : Nat) : hx_ct ro sp_ G (F9 G F) fz (ab_Ev ro ab_codes (d + 1)) 129 [(2, 30, 0), (0, 0, 1)] none (fun _ _ => True) (fun as w v w1 => ∀ (o : Nat) (k : Int32) (pk pa : Nat) (f : Nat → Int32), as = [.ref o, .int k] → hx_has w o 9 2 (.ref pk) → hx_has w o 9 5 (.ref pa) → w[pk]? = some (.inl (0, 5721, .inl f)) → hx_has w1 o 9 2 (.ref pk) ∧ hx_has w1 o 9 5 (.ref pa) ∧ w1[pk]? = some (.inl (0, 5721, .inl f)) ∧ ∃ g, w1[pa]? = some (.inl (0, 142, .inl g)) ∧ ∀ j : Nat, j < 71 → g (71 * k.toInt.toNat + j) = f j) := by
  have hFF := F9_same hF
  refine hx_hand (d := d + 0) (by decide) (fun as w hw hf has hP => ?_)
  match as, has with
  | [v0, v1], ⟨h0, h1, _⟩ =>
    obtain ⟨o, rfl, _, hG0⟩ := ty_refn h0 rfl rfl
    replace hG0 : G o = 30 := hG0
    obtain ⟨k, rfl, hl1, hh1⟩ := ty_int h1 rfl
    replace hl1 : (0 : Int) ≤ k.toInt := hl1
    replace hh1 : k.toInt ≤ 1 := hh1
    refine ⟨rfl, ?_⟩
    obtain ⟨fs1, g2, _, q3⟩ := hx_obj hw hG0 (s := 30) rfl (by decide)
    obtain ⟨pk, e_pk, hG_pk⟩ := hx_fr (k := 2) (s := 32) q3 rfl
    obtain ⟨pa, e_pa, hG_pa⟩ := hx_fr (k := 5) (s := 35) q3 rfl
    obtain ⟨f0, g_f0, r_f0⟩ := hx_row hw hG_pk (s := 32) (kd := 0) (n := 5721) rfl (by decide)
    have ct2 : ∀ (n : Nat) (w4 : ab_W) (i : Int32) (fa : Nat → Int32), ty_w sp_ G w4 → (F9 G F) w4 → ty_same G fz w w4 → (hx_has w4 o 9 2 (.ref pk)) → (hx_has w4 o 9 5 (.ref pa)) → (w4[pk]? = some (.inl (0, 5721, .inl f0))) → (w4[pa]? = some (.inl (0, 142, .inl fa))) → (0 ≤ i.toInt) → (i.toInt ≤ 71) → (∀ j : Nat, (j : Int) < i.toInt → fa (71 * k.toInt.toNat + j) = f0 j) → (72 - i.toInt).toNat < n → ab_wp ro (ab_Ev ro ab_codes d) 9 false none ab_k_X9_laysAside (fun o_1 => ∃ v w1, o_1 = (v, w1, 0, 0) ∧ ty_w sp_ G w1 ∧ (F9 G F) w1 ∧ ty_same G fz w w1 ∧ ck_res G none v ∧ (fun as w v w1 => ∀ (o : Nat) (k : Int32) (pk pa : Nat) (f : Nat → Int32), as = [.ref o, .int k] → hx_has w o 9 2 (.ref pk) → hx_has w o 9 5 (.ref pa) → w[pk]? = some (.inl (0, 5721, .inl f)) → hx_has w1 o 9 2 (.ref pk) ∧ hx_has w1 o 9 5 (.ref pa) ∧ w1[pk]? = some (.inl (0, 5721, .inl f)) ∧ ∃ g, w1[pa]? = some (.inl (0, 142, .inl g)) ∧ ∀ j : Nat, j < 71 → g (71 * k.toInt.toNat + j) = f j) ([.ref o, .int k] : List Value) w v w1) (2, [some (.ref o), some (.int k), some (.int i)], [], w4, 0, 0) := by
      intro n
      induction n with
      | zero => intro w4 i fa hw11 hf12 hs13 hh5 hh6 g7 g8 i9 i10 hcp hm; exact absurd hm (Nat.not_lt_zero _)
      | succ n ih2 =>
        intro w4 i fa hw11 hf12 hs13 hh5 hh6 g7 g8 i9 i10 hcp hm2
        obtain ⟨fs14, g15, e16⟩ := hh5
        obtain ⟨fs17, g18, e19⟩ := hh6
        obtain rfl : fs14 = fs17 := hx_inj g15 g18
        refine ax_go 1 (y := (3, [some (.ref o), some (.int k), some (.int i)], [.int i], w4, 0, 0)) rfl trivial ?_
        refine hx_k (l := 5) (m := 71) rfl rfl (by decide) (fun z20 h21 => ?_)
        refine hx_ic_ge (l := 8) rfl rfl (fun h22 => ?_) (fun h22 => ?_)
        · -- 31
          exact ax_ret rfl rfl trivial ⟨none, _, rfl, hw11, hf12, hs13, trivial, (fun o1 k1 pk1 pa1 f1 h1 h2 h3 h4 => by cases h1; obtain ⟨fsA, gA, eA⟩ := h2; obtain ⟨fsB, gB, eB⟩ := h3; obtain rfl := hx_inj g2 gA; obtain rfl := hx_inj g2 gB; cases e_pk.symm.trans eA; cases e_pa.symm.trans eB; obtain rfl := hx_injr g_f0 h4; exact ⟨⟨_, g15, e16⟩, ⟨_, g15, e19⟩, g7, fa, g8, fun j hj => hcp j (by omega)⟩)⟩
        · -- 8
          refine ax_go 1 (y := (9, [some (.ref o), some (.int k), some (.int i)], [.ref o], w4, 0, 0)) rfl trivial ?_
          refine hx_gf (l := 12) rfl rfl rfl g15 e19 ?_
          refine hx_k (l := 14) (m := 71) rfl rfl (by decide) (fun z23 h24 => ?_)
          refine ax_go 1 (y := (15, [some (.ref o), some (.int k), some (.int i)], [.int k, .int z23, .ref pa], w4, 0, 0)) rfl trivial ?_
          refine hx_mul (l := 16) rfl rfl (fun z25 h26 => ?_)
          rw [h24] at h26
          replace h26 := h26 (by omega) (by omega)
          refine ax_go 1 (y := (17, [some (.ref o), some (.int k), some (.int i)], [.int i, .int z25, .ref pa], w4, 0, 0)) rfl trivial ?_
          refine hx_add (l := 18) rfl rfl (fun z27 h28 => ?_)
          replace h28 := h28 (by omega) (by omega)
          refine ax_go 1 (y := (19, [some (.ref o), some (.int k), some (.int i)], [.ref o, .int z27, .ref pa], w4, 0, 0)) rfl trivial ?_
          refine hx_gf (l := 22) rfl rfl rfl g15 e16 ?_
          refine ax_go 1 (y := (23, [some (.ref o), some (.int k), some (.int i)], [.int i, .ref pk, .int z27, .ref pa], w4, 0, 0)) rfl trivial ?_
          have r29 := hx_rq hw11 g7 hG_pk (s := 32) rfl
          refine hx_il (l := 24) rfl rfl g7 (by omega) (by omega) (fun z30 h31 => ?_)
          refine hx_is (s := 35) (l := 25) rfl rfl rfl hw11 hG_pa g8 (by omega) (by omega) hx_sg0 (fun w32 f33 g34 e35 o36 n37 hw38 n39 => ?_)
          have hs40 := ty_same_tr hs13 (n39 fz (hx_ok hfz (by decide)))
          have kv42 := ((hf12.1.1 _ _ hG_pk g7).1 i.toInt.toNat (by omega)).1
          have old2 := hf12.1.2.1 _ _ hG_pa g8
          have mvn : ∀ (b k1 : Nat), k1 < 71 → (b = 0 ∨ b = 71) → z27.toInt.toNat = b + k1 → mv_b k1 (f33 z27.toInt.toNat).toInt := by
            intro b k1 hk hb e
            obtain rfl : k1 = i.toInt.toNat := by omega
            rw [e35, h31]
            exact kv42
          have hf41 : F9 G F w32 := ⟨FM_a hf12.1 hG_pa g34 n37 ⟨MV_up old2.1 o36 (fun k1 hk e => mvn 0 k1 hk (Or.inl rfl) e), MV_up old2.2 o36 (fun k1 hk e => mvn 71 k1 hk (Or.inr rfl) e)⟩, hF _ _ (n39 prM (by decide)) hf12.2⟩
          refine hx_iinc (x := i) (n := 1) (l := 28) rfl rfl rfl (Nat.le_of_ble_eq_true rfl) (by omega) (by omega) (by decide) (fun z43 h44 => ?_)
          change ab_wp ro (ab_Ev ro ab_codes d) 9 false none ab_k_X9_laysAside (fun o_1 => ∃ v w1, o_1 = (v, w1, 0, 0) ∧ ty_w sp_ G w1 ∧ (F9 G F) w1 ∧ ty_same G fz w w1 ∧ ck_res G none v ∧ (fun as w v w1 => ∀ (o : Nat) (k : Int32) (pk pa : Nat) (f : Nat → Int32), as = [.ref o, .int k] → hx_has w o 9 2 (.ref pk) → hx_has w o 9 5 (.ref pa) → w[pk]? = some (.inl (0, 5721, .inl f)) → hx_has w1 o 9 2 (.ref pk) ∧ hx_has w1 o 9 5 (.ref pa) ∧ w1[pk]? = some (.inl (0, 5721, .inl f)) ∧ ∃ g, w1[pa]? = some (.inl (0, 142, .inl g)) ∧ ∀ j : Nat, j < 71 → g (71 * k.toInt.toNat + j) = f j) ([.ref o, .int k] : List Value) w v w1) (28, [some (.ref o), some (.int k), some (.int z43)], [], w32, 0, 0)
          refine ax_go 1 (y := (2, [some (.ref o), some (.int k), some (.int z43)], [], w32, 0, 0)) rfl trivial ?_
          exact ih2 w32 z43 f33 hw38 hf41 hs40 ⟨_, ((n37 _ (hx_ne hG0 hG_pa (by decide))).trans g15), e16⟩ ⟨_, ((n37 _ (hx_ne hG0 hG_pa (by decide))).trans g15), e19⟩ ((n37 _ (hx_ne hG_pk hG_pa (by decide))).trans g7) g34 (by omega) (by omega) (fun j hj => by
            by_cases zz : (j : Int) = i.toInt
            · rw [show 71 * k.toInt.toNat + j = z27.toInt.toNat by omega, e35, h31, show i.toInt.toNat = j by omega]
            · rw [o36 _ (by omega)]; exact hcp j (by omega)) (by omega)
    change ab_wp ro (ab_Ev ro ab_codes d) 9 false none ab_k_X9_laysAside (fun o_1 => ∃ v w1, o_1 = (v, w1, 0, 0) ∧ ty_w sp_ G w1 ∧ (F9 G F) w1 ∧ ty_same G fz w w1 ∧ ck_res G none v ∧ (fun as w v w1 => ∀ (o : Nat) (k : Int32) (pk pa : Nat) (f : Nat → Int32), as = [.ref o, .int k] → hx_has w o 9 2 (.ref pk) → hx_has w o 9 5 (.ref pa) → w[pk]? = some (.inl (0, 5721, .inl f)) → hx_has w1 o 9 2 (.ref pk) ∧ hx_has w1 o 9 5 (.ref pa) ∧ w1[pk]? = some (.inl (0, 5721, .inl f)) ∧ ∃ g, w1[pa]? = some (.inl (0, 142, .inl g)) ∧ ∀ j : Nat, j < 71 → g (71 * k.toInt.toNat + j) = f j) ([.ref o, .int k] : List Value) w v w1) (0, [some (.ref o), some (.int k), none], [], w, 0, 0)
    refine hx_k (l := 1) (m := 0) rfl rfl (by decide) (fun z45 h46 => ?_)
    refine ax_go 1 (y := (2, [some (.ref o), some (.int k), some (.int z45)], [], w, 0, 0)) rfl trivial ?_
    obtain ⟨f47, g48, r49⟩ := hx_row hw hG_pa (s := 35) (kd := 0) (n := 142) rfl (by decide)
    exact ct2 _ w z45 f47 hw hf (ty_same_rf w) ⟨_, g2, e_pk⟩ ⟨_, g2, e_pa⟩ g_f0 g48 (by omega) (by omega) (fun j hj => absurd hj (by omega)) (Nat.lt_succ_self _)
theorem h_X9_laysAside {ro : ab_R} {G : Nat → Nat} {fz : List (Nat × Nat)} {F : ab_W → Prop} (hF : ∀ w w', ty_same G prM w w' → F w → F w') (hfz : ∀ q ∈ fz, q ∈ fb_hp_X9_laysAside) (d : Nat) : ck_ct ro sp_ G (F9 G F) fz (ab_Ev ro ab_codes (d + 1)) 129 [(2, 30, 0), (0, 0, 1)] none 0 0 := hx_weak (hp_X9_laysAside hF hfz d) (fun _ _ => trivial)
def fb_hp_X9_takesBack : List (Nat × Nat) := [(8, 3), (8, 5), (19, 999), (33, 999), (34, 999), (35, 999), (44, 999), (45, 999), (1, 0), (18, 999), (2, 11), (2, 14), (1, 15), (54, 11), (4, 2), (7, 9), (30, 13), (30, 34), (30, 2), (30, 22), (30, 23), (30, 24), (30, 25), (46, 999), (47, 999), (30, 35), (30, 36)]
theorem hp_X9_takesBack {ro : ab_R} {G : Nat → Nat} {fz : List (Nat × Nat)} {F : ab_W → Prop} (hF : ∀ w w', ty_same G prM w w' → F w → F w') (hfz : ∀ q ∈ fz, q ∈ fb_hp_X9_takesBack) (d : Nat) : hx_ct ro sp_ G (F9 G F) fz (ab_Ev ro ab_codes (d + 1)) 130 [(2, 30, 0), (0, 0, 1)] none (fun _ _ => True) (fun as w v w1 => ∀ (o : Nat) (k : Int32) (pk pa : Nat) (f g : Nat → Int32), as = [.ref o, .int k] → hx_has w o 9 2 (.ref pk) → hx_has w o 9 5 (.ref pa) → w[pk]? = some (.inl (0, 5721, .inl f)) → w[pa]? = some (.inl (0, 142, .inl g)) → hx_has w1 o 9 2 (.ref pk) ∧ hx_has w1 o 9 5 (.ref pa) ∧ ∃ f2, w1[pk]? = some (.inl (0, 5721, .inl f2)) ∧ (∀ j : Nat, j < 71 → f2 j = g (71 * k.toInt.toNat + j)) ∧ ∀ j : Nat, 71 ≤ j → f2 j = f j) := by
  have hFF := F9_same hF
  refine hx_hand (d := d + 0) (by decide) (fun as w hw hf has hP => ?_)
  match as, has with
  | [v0, v1], ⟨h0, h1, _⟩ =>
    obtain ⟨o, rfl, _, hG0⟩ := ty_refn h0 rfl rfl
    replace hG0 : G o = 30 := hG0
    obtain ⟨k, rfl, hl1, hh1⟩ := ty_int h1 rfl
    replace hl1 : (0 : Int) ≤ k.toInt := hl1
    replace hh1 : k.toInt ≤ 1 := hh1
    refine ⟨rfl, ?_⟩
    obtain ⟨fs1, g2, _, q3⟩ := hx_obj hw hG0 (s := 30) rfl (by decide)
    obtain ⟨pk, e_pk, hG_pk⟩ := hx_fr (k := 2) (s := 32) q3 rfl
    obtain ⟨pa, e_pa, hG_pa⟩ := hx_fr (k := 5) (s := 35) q3 rfl
    obtain ⟨f0, g_f0, r_f0⟩ := hx_row hw hG_pk (s := 32) (kd := 0) (n := 5721) rfl (by decide)
    obtain ⟨g0, g_g0, r_g0⟩ := hx_row hw hG_pa (s := 35) (kd := 0) (n := 142) rfl (by decide)
    have ct2 : ∀ (n : Nat) (w4 : ab_W) (i : Int32) (fk : Nat → Int32), ty_w sp_ G w4 → (F9 G F) w4 → ty_same G fz w w4 → (hx_has w4 o 9 2 (.ref pk)) → (hx_has w4 o 9 5 (.ref pa)) → (w4[pk]? = some (.inl (0, 5721, .inl fk))) → (w4[pa]? = some (.inl (0, 142, .inl g0))) → (0 ≤ i.toInt) → (i.toInt ≤ 71) → (∀ j : Nat, (j : Int) < i.toInt → fk j = g0 (71 * k.toInt.toNat + j)) → (∀ j : Nat, 71 ≤ j → fk j = f0 j) → (72 - i.toInt).toNat < n → ab_wp ro (ab_Ev ro ab_codes d) 9 false none ab_k_X9_takesBack (fun o_1 => ∃ v w1, o_1 = (v, w1, 0, 0) ∧ ty_w sp_ G w1 ∧ (F9 G F) w1 ∧ ty_same G fz w w1 ∧ ck_res G none v ∧ (fun as w v w1 => ∀ (o : Nat) (k : Int32) (pk pa : Nat) (f g : Nat → Int32), as = [.ref o, .int k] → hx_has w o 9 2 (.ref pk) → hx_has w o 9 5 (.ref pa) → w[pk]? = some (.inl (0, 5721, .inl f)) → w[pa]? = some (.inl (0, 142, .inl g)) → hx_has w1 o 9 2 (.ref pk) ∧ hx_has w1 o 9 5 (.ref pa) ∧ ∃ f2, w1[pk]? = some (.inl (0, 5721, .inl f2)) ∧ (∀ j : Nat, j < 71 → f2 j = g (71 * k.toInt.toNat + j)) ∧ ∀ j : Nat, 71 ≤ j → f2 j = f j) ([.ref o, .int k] : List Value) w v w1) (2, [some (.ref o), some (.int k), some (.int i)], [], w4, 0, 0) := by
      intro n
      induction n with
      | zero => intro w4 i fk hw11 hf12 hs13 hh5 hh6 g7 g8 i9 i10 hcp hst hm; exact absurd hm (Nat.not_lt_zero _)
      | succ n ih2 =>
        intro w4 i fk hw11 hf12 hs13 hh5 hh6 g7 g8 i9 i10 hcp hst hm2
        obtain ⟨fs14, g15, e16⟩ := hh5
        obtain ⟨fs17, g18, e19⟩ := hh6
        obtain rfl : fs14 = fs17 := hx_inj g15 g18
        refine ax_go 1 (y := (3, [some (.ref o), some (.int k), some (.int i)], [.int i], w4, 0, 0)) rfl trivial ?_
        refine hx_k (l := 5) (m := 71) rfl rfl (by decide) (fun z20 h21 => ?_)
        refine hx_ic_ge (l := 8) rfl rfl (fun h22 => ?_) (fun h22 => ?_)
        · -- 31
          exact ax_ret rfl rfl trivial ⟨none, _, rfl, hw11, hf12, hs13, trivial, (fun o1 k1 pk1 pa1 f1 g1 h1 h2 h3 h4 h5 => by cases h1; obtain ⟨fsA, gA, eA⟩ := h2; obtain ⟨fsB, gB, eB⟩ := h3; obtain rfl := hx_inj g2 gA; obtain rfl := hx_inj g2 gB; cases e_pk.symm.trans eA; cases e_pa.symm.trans eB; obtain rfl := hx_injr g_f0 h4; obtain rfl := hx_injr g_g0 h5; exact ⟨⟨_, g15, e16⟩, ⟨_, g15, e19⟩, fk, g7, fun j hj => hcp j (by omega), hst⟩)⟩
        · -- 8
          refine ax_go 1 (y := (9, [some (.ref o), some (.int k), some (.int i)], [.ref o], w4, 0, 0)) rfl trivial ?_
          refine hx_gf (l := 12) rfl rfl rfl g15 e16 ?_
          refine ax_go 2 (y := (14, [some (.ref o), some (.int k), some (.int i)], [.ref o, .int i, .ref pk], w4, 0, 0)) rfl trivial ?_
          refine hx_gf (l := 17) rfl rfl rfl g15 e19 ?_
          refine hx_k (l := 19) (m := 71) rfl rfl (by decide) (fun z23 h24 => ?_)
          refine ax_go 1 (y := (20, [some (.ref o), some (.int k), some (.int i)], [.int k, .int z23, .ref pa, .int i, .ref pk], w4, 0, 0)) rfl trivial ?_
          refine hx_mul (l := 21) rfl rfl (fun z25 h26 => ?_)
          rw [h24] at h26
          replace h26 := h26 (by omega) (by omega)
          refine ax_go 1 (y := (22, [some (.ref o), some (.int k), some (.int i)], [.int i, .int z25, .ref pa, .int i, .ref pk], w4, 0, 0)) rfl trivial ?_
          refine hx_add (l := 23) rfl rfl (fun z27 h28 => ?_)
          replace h28 := h28 (by omega) (by omega)
          have r29 := hx_rq hw11 g8 hG_pa (s := 35) rfl
          refine hx_il (l := 24) rfl rfl g8 (by omega) (by omega) (fun z30 h31 => ?_)
          have mvq : mv_b i.toInt.toNat z30.toInt := by
            have old2 := hf12.1.2.1 _ _ hG_pa g8
            rcases (show k.toInt = 0 ∨ k.toInt = 1 by omega) with e | e
            · have y := old2.1 i.toInt.toNat (by omega)
              rw [show 0 + i.toInt.toNat = z27.toInt.toNat by omega, ← h31] at y
              exact y
            · have y := old2.2 i.toInt.toNat (by omega)
              rw [show 71 + i.toInt.toNat = z27.toInt.toNat by omega, ← h31] at y
              exact y
          obtain ⟨mq1, mq2, mq3, mq4⟩ := mvq
          refine hx_is (s := 32) (l := 25) rfl rfl rfl hw11 hG_pk g7 (by omega) (by omega) (hx_sg1 (fun _ _ _ => ⟨by omega, by omega⟩) (hx_sg1 (fun _ _ _ => ⟨by omega, by omega⟩) (hx_sg1 (fun _ _ _ => ⟨by omega, by omega⟩) (hx_sg1 (fun _ _ _ => ⟨by omega, by omega⟩) (hx_sg1 (fun _ _ _ => ⟨by omega, by omega⟩) (hx_sg1 (fun _ _ _ => ⟨by omega, by omega⟩) (hx_sg1 (fun _ _ _ => ⟨by omega, by omega⟩) (hx_sg1 (fun _ _ _ => ⟨by omega, by omega⟩) (hx_sg1 (fun _ _ _ => ⟨by omega, by omega⟩) hx_sg0))))))))) (fun w32 f33 g34 e35 o36 n37 hw38 n39 => ?_)
          have hs40 := ty_same_tr hs13 (n39 fz (hx_ok hfz (by decide)))
          have kp42 := hf12.1.1 _ _ hG_pk g7
          have mv44 : mv_b i.toInt.toNat z30.toInt := by
            have old2 := hf12.1.2.1 _ _ hG_pa g8
            rcases (show k.toInt = 0 ∨ k.toInt = 1 by omega) with e | e
            · have y := old2.1 i.toInt.toNat (by omega)
              rw [show 0 + i.toInt.toNat = z27.toInt.toNat by omega, ← h31] at y
              exact y
            · have y := old2.2 i.toInt.toNat (by omega)
              rw [show 71 + i.toInt.toNat = z27.toInt.toNat by omega, ← h31] at y
              exact y
          have hf41 : F9 G F w32 := ⟨FM_k hf12.1 hG_pk g34 n37 (KP_up kp42 o36 (by rw [e35]; exact mv_ok mv44 (by omega)) (by omega)), hF _ _ (n39 prM (by decide)) hf12.2⟩
          refine hx_iinc (x := i) (n := 1) (l := 28) rfl rfl rfl (Nat.le_of_ble_eq_true rfl) (by omega) (by omega) (by decide) (fun z45 h46 => ?_)
          change ab_wp ro (ab_Ev ro ab_codes d) 9 false none ab_k_X9_takesBack (fun o_1 => ∃ v w1, o_1 = (v, w1, 0, 0) ∧ ty_w sp_ G w1 ∧ (F9 G F) w1 ∧ ty_same G fz w w1 ∧ ck_res G none v ∧ (fun as w v w1 => ∀ (o : Nat) (k : Int32) (pk pa : Nat) (f g : Nat → Int32), as = [.ref o, .int k] → hx_has w o 9 2 (.ref pk) → hx_has w o 9 5 (.ref pa) → w[pk]? = some (.inl (0, 5721, .inl f)) → w[pa]? = some (.inl (0, 142, .inl g)) → hx_has w1 o 9 2 (.ref pk) ∧ hx_has w1 o 9 5 (.ref pa) ∧ ∃ f2, w1[pk]? = some (.inl (0, 5721, .inl f2)) ∧ (∀ j : Nat, j < 71 → f2 j = g (71 * k.toInt.toNat + j)) ∧ ∀ j : Nat, 71 ≤ j → f2 j = f j) ([.ref o, .int k] : List Value) w v w1) (28, [some (.ref o), some (.int k), some (.int z45)], [], w32, 0, 0)
          refine ax_go 1 (y := (2, [some (.ref o), some (.int k), some (.int z45)], [], w32, 0, 0)) rfl trivial ?_
          exact ih2 w32 z45 f33 hw38 hf41 hs40 ⟨_, ((n37 _ (hx_ne hG0 hG_pk (by decide))).trans g15), e16⟩ ⟨_, ((n37 _ (hx_ne hG0 hG_pk (by decide))).trans g15), e19⟩ g34 ((n37 _ (hx_ne hG_pa hG_pk (by decide))).trans g8) (by omega) (by omega) (fun j hj => by
            by_cases zz : (j : Int) = i.toInt
            · rw [show j = i.toInt.toNat by omega, e35, h31, show z27.toInt.toNat = 71 * k.toInt.toNat + i.toInt.toNat by omega]
            · rw [o36 _ (by omega)]; exact hcp j (by omega)) (fun j hj => by rw [o36 _ (by omega)]; exact hst j (by omega)) (by omega)
    change ab_wp ro (ab_Ev ro ab_codes d) 9 false none ab_k_X9_takesBack (fun o_1 => ∃ v w1, o_1 = (v, w1, 0, 0) ∧ ty_w sp_ G w1 ∧ (F9 G F) w1 ∧ ty_same G fz w w1 ∧ ck_res G none v ∧ (fun as w v w1 => ∀ (o : Nat) (k : Int32) (pk pa : Nat) (f g : Nat → Int32), as = [.ref o, .int k] → hx_has w o 9 2 (.ref pk) → hx_has w o 9 5 (.ref pa) → w[pk]? = some (.inl (0, 5721, .inl f)) → w[pa]? = some (.inl (0, 142, .inl g)) → hx_has w1 o 9 2 (.ref pk) ∧ hx_has w1 o 9 5 (.ref pa) ∧ ∃ f2, w1[pk]? = some (.inl (0, 5721, .inl f2)) ∧ (∀ j : Nat, j < 71 → f2 j = g (71 * k.toInt.toNat + j)) ∧ ∀ j : Nat, 71 ≤ j → f2 j = f j) ([.ref o, .int k] : List Value) w v w1) (0, [some (.ref o), some (.int k), none], [], w, 0, 0)
    refine hx_k (l := 1) (m := 0) rfl rfl (by decide) (fun z47 h48 => ?_)
    refine ax_go 1 (y := (2, [some (.ref o), some (.int k), some (.int z47)], [], w, 0, 0)) rfl trivial ?_
    exact ct2 _ w z47 f0 hw hf (ty_same_rf w) ⟨_, g2, e_pk⟩ ⟨_, g2, e_pa⟩ g_f0 g_g0 (by omega) (by omega) (fun j hj => absurd hj (by omega)) (fun j hj => rfl) (Nat.lt_succ_self _)
theorem h_X9_takesBack {ro : ab_R} {G : Nat → Nat} {fz : List (Nat × Nat)} {F : ab_W → Prop} (hF : ∀ w w', ty_same G prM w w' → F w → F w') (hfz : ∀ q ∈ fz, q ∈ fb_hp_X9_takesBack) (d : Nat) : ck_ct ro sp_ G (F9 G F) fz (ab_Ev ro ab_codes (d + 1)) 130 [(2, 30, 0), (0, 0, 1)] none 0 0 := hx_weak (hp_X9_takesBack hF hfz d) (fun _ _ => trivial)
def fb_X9_settled : List (Nat × Nat) := [(8, 3), (8, 5), (19, 999), (32, 999), (33, 999), (34, 999), (35, 999), (44, 999), (45, 999), (1, 0), (18, 999), (2, 11), (2, 14), (1, 15), (54, 11), (4, 2), (7, 9), (30, 13), (30, 2), (30, 22), (30, 23), (30, 24), (30, 25), (46, 999), (47, 999), (30, 35), (30, 36)]
theorem h_X9_settled {ro : ab_R} {G : Nat → Nat} {fz : List (Nat × Nat)} {F : ab_W → Prop} (hF : ∀ w w', ty_same G prM w w' → F w → F w') (hfz : ∀ q ∈ fz, q ∈ fb_X9_settled) (d : Nat) : ck_ct ro sp_ G (F9 G F) fz (ab_Ev ro ab_codes (d + 2)) 126 [(2, 30, 0), (0, (-2147483648), 2147483647)] (some (0, (-2147483648), 2147483647)) 0 0 := by
  have hFF := F9_same hF
  refine ck_hand (d := d + 1) (by decide) (fun as w hw hf has => ?_)
  match as, has with
  | [v0, v1], ⟨h0, h1, _⟩ =>
    obtain ⟨o, rfl, _, hG0⟩ := ty_refn h0 rfl rfl
    replace hG0 : G o = 30 := hG0
    obtain ⟨vv, rfl, hl1, hh1⟩ := ty_int h1 rfl
    replace hl1 : ((-2147483648) : Int) ≤ vv.toInt := hl1
    replace hh1 : vv.toInt ≤ 2147483647 := hh1
    refine ⟨rfl, ?_⟩
    change ab_wp ro (ab_Ev ro ab_codes (d + 1)) 9 false (some .int) ab_k_X9_settled (fun o_1 => ∃ v w1, o_1 = (v, w1, 0, 0) ∧ ty_w sp_ G w1 ∧ (F9 G F) w1 ∧ ty_same G fz w w1 ∧ ck_res G (some (0, (-2147483648), 2147483647)) v ∧ ck_wit 0 0 [.ref o, .int vv] v) (0, [some (.ref o), some (.int vv)], [], w, 0, 0)
    refine ax_go 1 (y := (1, [some (.ref o), some (.int vv)], [.ref o], w, 0, 0)) rfl trivial ?_
    refine hx_k (l := 2) (m := 0) rfl rfl (by decide) (fun z1 h2 => ?_)
    obtain ⟨fs3, g4, _, q5⟩ := hx_obj hw hG0 (s := 30) rfl (by decide)
    refine hx_pf (q := (0, 0, 0, 0, 0, 16)) (s := 30) (l := 5) (v := .int z1) rfl rfl rfl (by decide) rfl rfl rfl hw hG0 g4 trivial (hx_ti (G := G) (lo := 0) (hi := 16) (by omega) (by omega)) (fun w6 fs7 g8 e9 o10 n11 hw12 n13 => ?_)
    have hs14 := ty_same_tr (ty_same_rf w) (n13 fz (hx_ok hfz (by decide)))
    have hf15 := hFF _ _ (n13 pr_ (by decide)) hf
    refine ax_go 2 (y := (7, [some (.ref o), some (.int vv)], [.int vv, .ref o], w6, 0, 0)) rfl trivial ?_
    refine hx_ci (l := 10) (as := [.ref o, .int vv]) rfl rfl (hx_iv (j := 125) (n := 1) (o := o) (r := []) rfl rfl g8 rfl) (cc_X9_good_0 (fz := fz) hFF  (fun q hq => (by decide +kernel : ∀ q ∈ fb_X9_settled, q ∈ fr_X9_good_0) q (hfz q hq)) (d + 0)) hw12 hf15 ⟨(hx_tr (G := G) (s := 30) (b := 0) hG0 (by decide)), (ck_top_ok (G := G) vv), trivial⟩ (fun w16 z21 hw17 hf18 m19 a22 b23 u24 => ?_)
    have hs20 := ty_same_tr hs14 m19
    exact ax_ret rfl rfl trivial ⟨some (.int z21), _, rfl, hw17, hf18, hs20, (ck_top_ok (G := G) z21), trivial⟩
def fb_hp_X9_walksOff : List (Nat × Nat) := [(8, 3), (8, 5), (19, 999), (33, 999), (34, 999), (35, 999), (44, 999), (45, 999), (1, 0), (18, 999), (2, 11), (2, 14), (1, 15), (54, 11), (4, 2), (7, 9), (30, 13), (30, 34), (30, 2), (30, 22), (30, 23), (30, 24), (30, 25), (46, 999), (47, 999), (30, 35), (30, 36)]
theorem hp_X9_walksOff {ro : ab_R} {G : Nat → Nat} {fz : List (Nat × Nat)} {F : ab_W → Prop} (hF : ∀ w w', ty_same G prM w w' → F w → F w') (hfz : ∀ q ∈ fz, q ∈ fb_hp_X9_walksOff) (d : Nat) : hx_ct ro sp_ G (F9 G F) fz (ab_Ev ro ab_codes (d + 2)) 191 [(2, 30, 0), (0, 0, 9), (0, 0, 98)] none (fun as w => ∀ (o : Nat) (p : Int32) (m : Int32) (pk : Nat) (f : Nat → Int32), as = [.ref o, .int p, .int m] → hx_has w o 9 2 (.ref pk) → w[pk]? = some (.inl (0, 5721, .inl f)) → m.toInt ≤ (f p.toInt.toNat).toInt) (fun _ _ _ _ => True) := by
  have hFF := F9_same hF
  refine hx_hand (d := d + 1) (by decide) (fun as w hw hf has hP => ?_)
  match as, has with
  | [v0, v1, v2], ⟨h0, h1, h2, _⟩ =>
    obtain ⟨o, rfl, _, hG0⟩ := ty_refn h0 rfl rfl
    replace hG0 : G o = 30 := hG0
    obtain ⟨p, rfl, hl1, hh1⟩ := ty_int h1 rfl
    replace hl1 : (0 : Int) ≤ p.toInt := hl1
    replace hh1 : p.toInt ≤ 9 := hh1
    obtain ⟨m, rfl, hl2, hh2⟩ := ty_int h2 rfl
    replace hl2 : (0 : Int) ≤ m.toInt := hl2
    replace hh2 : m.toInt ≤ 98 := hh2
    refine ⟨rfl, ?_⟩
    obtain ⟨fs1, g2, _, q3⟩ := hx_obj hw hG0 (s := 30) rfl (by decide)
    obtain ⟨pk, e_pk, hG_pk⟩ := hx_fr (k := 2) (s := 32) q3 rfl
    obtain ⟨f0, g_f0, r_f0⟩ := hx_row hw hG_pk (s := 32) (kd := 0) (n := 5721) rfl (by decide)
    have hp0 := hP o p m pk f0 rfl ⟨_, g2, e_pk⟩ g_f0
    change ab_wp ro (ab_Ev ro ab_codes (d + 1)) 9 false none ab_k_X9_walksOff (fun o_1 => ∃ v w1, o_1 = (v, w1, 0, 0) ∧ ty_w sp_ G w1 ∧ (F9 G F) w1 ∧ ty_same G fz w w1 ∧ ck_res G none v ∧ (fun _ _ _ _ => True) ([.ref o, .int p, .int m] : List Value) w v w1) (0, [some (.ref o), some (.int p), some (.int m)], [], w, 0, 0)
    refine ax_go 1 (y := (1, [some (.ref o), some (.int p), some (.int m)], [.ref o], w, 0, 0)) rfl trivial ?_
    refine hx_gf (l := 4) rfl rfl rfl g2 e_pk ?_
    refine hx_k (l := 5) (m := 0) rfl rfl (by decide) (fun z4 h5 => ?_)
    refine ax_go 1 (y := (6, [some (.ref o), some (.int p), some (.int m)], [.int p, .int z4, .ref pk], w, 0, 0)) rfl trivial ?_
    refine hx_add (l := 7) rfl rfl (fun z6 h7 => ?_)
    replace h7 := h7 (by omega) (by omega)
    refine ax_go 1 (y := (8, [some (.ref o), some (.int p), some (.int m)], [.int z6, .ref pk, .int z6, .ref pk], w, 0, 0)) rfl trivial ?_
    refine hx_il (l := 9) rfl rfl g_f0 (by omega) (by omega) (fun z8 h9 => ?_)
    have b10 := ((hf.1.1 _ _ hG_pk g_f0).1 z6.toInt.toNat (by omega)).1.1 (by omega)
    rw [← h9] at b10
    rw [show p.toInt.toNat = z6.toInt.toNat by omega, ← h9] at hp0
    refine ax_go 1 (y := (10, [some (.ref o), some (.int p), some (.int m)], [.int m, .int z8, .int z6, .ref pk], w, 0, 0)) rfl trivial ?_
    refine hx_sub (l := 11) rfl rfl (fun z11 h12 => ?_)
    replace h12 := h12 (by omega) (by omega)
    refine hx_is (s := 32) (l := 12) rfl rfl rfl hw hG_pk g_f0 (by omega) (by omega) (hx_sg1 (fun _ _ _ => ⟨by omega, by omega⟩) (hx_sg1 (fun _ _ _ => ⟨by omega, by omega⟩) (hx_sg1 (fun _ _ _ => ⟨by omega, by omega⟩) (hx_sg1 (fun _ _ _ => ⟨by omega, by omega⟩) (hx_sg1 (fun _ _ _ => ⟨by omega, by omega⟩) (hx_sg1 (fun _ _ _ => ⟨by omega, by omega⟩) (hx_sg1 (fun _ _ _ => ⟨by omega, by omega⟩) (hx_sg1 (fun _ _ _ => ⟨by omega, by omega⟩) (hx_sg1 (fun _ _ _ => ⟨by omega, by omega⟩) hx_sg0))))))))) (fun w13 f14 g15 e16 o17 n18 hw19 n20 => ?_)
    have hs21 := ty_same_tr (ty_same_rf w) (n20 fz (hx_ok hfz (by decide)))
    have kp23 := hf.1.1 _ _ hG_pk g_f0
    have kq24 : kb z6.toInt.toNat z11.toInt := ⟨⟨fun _ => by omega, fun _ _ _ => by omega, fun _ _ _ => by omega, fun _ => by omega⟩, fun _ _ => by omega, fun _ _ _ => by omega, fun _ => by omega, fun _ => by omega, fun _ => by omega, fun _ => by omega, fun _ => by omega, fun _ _ => by omega⟩
    have hf22 : F9 G F w13 := ⟨FM_k hf.1 hG_pk g15 n18 (KP_up kp23 o17 (by rw [e16]; exact kq24) (by omega)), hF _ _ (n20 prM (by decide)) hf.2⟩
    refine ax_go 1 (y := (13, [some (.ref o), some (.int p), some (.int m)], [.ref o], w13, 0, 0)) rfl trivial ?_
    refine hx_gf (l := 16) rfl rfl rfl ((n18 _ (hx_ne hG0 hG_pk (by decide))).trans g2) e_pk ?_
    refine hx_k (l := 18) (m := 10) rfl rfl (by decide) (fun z25 h26 => ?_)
    refine ax_go 1 (y := (19, [some (.ref o), some (.int p), some (.int m)], [.int p, .int z25, .ref pk], w13, 0, 0)) rfl trivial ?_
    refine hx_add (l := 20) rfl rfl (fun z27 h28 => ?_)
    replace h28 := h28 (by omega) (by omega)
    refine hx_k (l := 23) (m := 99999) rfl rfl (by decide) (fun z29 h30 => ?_)
    refine ax_go 1 (y := (24, [some (.ref o), some (.int p), some (.int m)], [.ref o, .int z29, .int z27, .ref pk], w13, 0, 0)) rfl trivial ?_
    refine hx_gf (l := 27) rfl rfl rfl ((n18 _ (hx_ne hG0 hG_pk (by decide))).trans g2) e_pk ?_
    refine hx_k (l := 29) (m := 10) rfl rfl (by decide) (fun z31 h32 => ?_)
    refine ax_go 1 (y := (30, [some (.ref o), some (.int p), some (.int m)], [.int p, .int z31, .ref pk, .int z29, .int z27, .ref pk], w13, 0, 0)) rfl trivial ?_
    refine hx_add (l := 31) rfl rfl (fun z33 h34 => ?_)
    replace h34 := h34 (by omega) (by omega)
    have r35 := hx_rq hw19 g15 hG_pk (s := 32) rfl
    refine hx_il (l := 32) rfl rfl g15 (by omega) (by omega) (fun z36 h37 => ?_)
    refine ax_go 1 (y := (33, [some (.ref o), some (.int p), some (.int m)], [.int m, .int z36, .int z29, .int z27, .ref pk], w13, 0, 0)) rfl trivial ?_
    refine hx_add (l := 34) rfl rfl (fun z38 h39 => ?_)
    refine hx_pi (l := 37) (as := [.int z29, .int z38]) rfl rfl rfl (hp_X9_lesser (fz := fz) hFF (fun q hq => (by decide +kernel : ∀ q ∈ fb_hp_X9_walksOff, q ∈ fb_hp_X9_lesser) q (hfz q hq)) (d + 0)) hw19 hf22 ⟨(ck_top_ok (G := G) z29), (ck_top_ok (G := G) z38), trivial⟩ trivial (fun w40 z45 hw41 hf42 m43 a46 b47 u48 => ?_)
    rw [u48.1]
    have u49 := u48.2 _ _ _ rfl rfl
    refine hx_is (s := 32) (l := 38) rfl rfl rfl hw19 hG_pk g15 (by omega) (by omega) (hx_sg1 (fun _ _ _ => ⟨by omega, by omega⟩) (hx_sg1 (fun _ _ _ => ⟨by omega, by omega⟩) (hx_sg1 (fun _ _ _ => ⟨by omega, by omega⟩) (hx_sg1 (fun _ _ _ => ⟨by omega, by omega⟩) (hx_sg1 (fun _ _ _ => ⟨by omega, by omega⟩) (hx_sg1 (fun _ _ _ => ⟨by omega, by omega⟩) (hx_sg1 (fun _ _ _ => ⟨by omega, by omega⟩) (hx_sg1 (fun _ _ _ => ⟨by omega, by omega⟩) (hx_sg1 (fun _ _ _ => ⟨by omega, by omega⟩) hx_sg0))))))))) (fun w50 f51 g52 e53 o54 n55 hw56 n57 => ?_)
    have hs58 := ty_same_tr hs21 (n57 fz (hx_ok hfz (by decide)))
    have kp60 := hf22.1.1 _ _ hG_pk g15
    have kq61 : kb z27.toInt.toNat z45.toInt := ⟨⟨fun _ => by omega, fun _ _ _ => by omega, fun _ _ _ => by omega, fun _ => by omega⟩, fun _ _ => by omega, fun _ _ _ => by omega, fun _ => by omega, fun _ => by omega, fun _ => by omega, fun _ => by omega, fun _ => by omega, fun _ _ => by omega⟩
    have hf59 : F9 G F w50 := ⟨FM_k hf22.1 hG_pk g52 n55 (KP_up kp60 o54 (by rw [e53]; exact kq61) (by omega)), hF _ _ (n57 prM (by decide)) hf22.2⟩
    exact ax_ret rfl rfl trivial ⟨none, _, rfl, hw56, hf59, hs58, trivial, trivial⟩
def fb_X9_arrives : List (Nat × Nat) := [(8, 3), (8, 5), (19, 999), (33, 999), (34, 999), (35, 999), (44, 999), (45, 999), (1, 0), (18, 999), (2, 11), (2, 14), (1, 15), (54, 11), (4, 2), (7, 9), (30, 13), (30, 34), (30, 2), (30, 22), (30, 23), (30, 24), (30, 25), (46, 999), (47, 999), (30, 35), (30, 36)]
theorem h_X9_arrives {ro : ab_R} {G : Nat → Nat} {fz : List (Nat × Nat)} {F : ab_W → Prop} (hF : ∀ w w', ty_same G prM w w' → F w → F w') (hfz : ∀ q ∈ fz, q ∈ fb_X9_arrives) (d : Nat) : ck_ct ro sp_ G (F9 G F) fz (ab_Ev ro ab_codes (d + 2)) 193 [(2, 30, 0), (0, 0, 9), (0, 0, 98)] none 0 0 := by
  have hFF := F9_same hF
  refine ck_hand (d := d + 1) (by decide) (fun as w hw hf has => ?_)
  match as, has with
  | [v0, v1, v2], ⟨h0, h1, h2, _⟩ =>
    obtain ⟨o, rfl, _, hG0⟩ := ty_refn h0 rfl rfl
    replace hG0 : G o = 30 := hG0
    obtain ⟨p, rfl, hl1, hh1⟩ := ty_int h1 rfl
    replace hl1 : (0 : Int) ≤ p.toInt := hl1
    replace hh1 : p.toInt ≤ 9 := hh1
    obtain ⟨m, rfl, hl2, hh2⟩ := ty_int h2 rfl
    replace hl2 : (0 : Int) ≤ m.toInt := hl2
    replace hh2 : m.toInt ≤ 98 := hh2
    refine ⟨rfl, ?_⟩
    change ab_wp ro (ab_Ev ro ab_codes (d + 1)) 9 false none ab_k_X9_arrives (fun o_1 => ∃ v w1, o_1 = (v, w1, 0, 0) ∧ ty_w sp_ G w1 ∧ (F9 G F) w1 ∧ ty_same G fz w w1 ∧ ck_res G none v ∧ ck_wit 0 0 [.ref o, .int p, .int m] v) (0, [some (.ref o), some (.int p), some (.int m), none], [], w, 0, 0)
    refine ax_go 1 (y := (1, [some (.ref o), some (.int p), some (.int m), none], [.ref o], w, 0, 0)) rfl trivial ?_
    obtain ⟨fs1, g2, _, q3⟩ := hx_obj hw hG0 (s := 30) rfl (by decide)
    obtain ⟨p4, e5, hG6⟩ := hx_fr (k := 2) (s := 32) q3 rfl
    refine hx_gf (l := 4) rfl rfl rfl g2 e5 ?_
    refine hx_k (l := 6) (m := 71) rfl rfl (by decide) (fun z7 h8 => ?_)
    refine ax_go 1 (y := (7, [some (.ref o), some (.int p), some (.int m), none], [.int p, .int z7, .ref p4], w, 0, 0)) rfl trivial ?_
    refine hx_add (l := 8) rfl rfl (fun z9 h10 => ?_)
    replace h10 := h10 (by omega) (by omega)
    obtain ⟨f11, g12, r13⟩ := hx_row hw hG6 (s := 32) (kd := 0) (n := 5721) rfl (by decide)
    refine hx_il (l := 9) rfl rfl g12 (by omega) (by omega) (fun z14 h15 => ?_)
    have b16 := ((hf.1.1 _ _ hG6 g12).1 z9.toInt.toNat (by omega)).2.1 (by omega) (by omega)
    rw [← h15] at b16
    refine ax_go 2 (y := (11, [some (.ref o), some (.int p), some (.int m), some (.int z14)], [.int z14], w, 0, 0)) rfl trivial ?_
    refine hx_k (l := 12) (m := (-1)) rfl rfl (by decide) (fun z17 h18 => ?_)
    refine hx_ic_ne (l := 15) rfl rfl (fun h19 => ?_) (fun h19 => ?_)
    · -- 50
      refine ax_go 1 (y := (51, [some (.ref o), some (.int p), some (.int m), some (.int z14)], [.ref o], w, 0, 0)) rfl trivial ?_
      refine hx_gf (l := 54) rfl rfl rfl g2 e5 ?_
      refine hx_k (l := 55) (m := 0) rfl rfl (by decide) (fun z20 h21 => ?_)
      refine ax_go 1 (y := (56, [some (.ref o), some (.int p), some (.int m), some (.int z14)], [.int z14, .int z20, .ref p4], w, 0, 0)) rfl trivial ?_
      refine hx_add (l := 57) rfl rfl (fun z22 h23 => ?_)
      replace h23 := h23 (by omega) (by omega)
      refine hx_k (l := 60) (m := 999) rfl rfl (by decide) (fun z24 h25 => ?_)
      refine ax_go 1 (y := (61, [some (.ref o), some (.int p), some (.int m), some (.int z14)], [.ref o, .int z24, .int z22, .ref p4], w, 0, 0)) rfl trivial ?_
      refine hx_gf (l := 64) rfl rfl rfl g2 e5 ?_
      refine hx_k (l := 65) (m := 0) rfl rfl (by decide) (fun z26 h27 => ?_)
      refine ax_go 1 (y := (66, [some (.ref o), some (.int p), some (.int m), some (.int z14)], [.int z14, .int z26, .ref p4, .int z24, .int z22, .ref p4], w, 0, 0)) rfl trivial ?_
      refine hx_add (l := 67) rfl rfl (fun z28 h29 => ?_)
      replace h29 := h29 (by omega) (by omega)
      refine hx_il (l := 68) rfl rfl g12 (by omega) (by omega) (fun z30 h31 => ?_)
      have b32 := ((hf.1.1 _ _ hG6 g12).1 z28.toInt.toNat (by omega)).1.1 (by omega)
      rw [← h31] at b32
      refine ax_go 1 (y := (69, [some (.ref o), some (.int p), some (.int m), some (.int z14)], [.int m, .int z30, .int z24, .int z22, .ref p4], w, 0, 0)) rfl trivial ?_
      refine hx_add (l := 70) rfl rfl (fun z33 h34 => ?_)
      replace h34 := h34 (by omega) (by omega)
      refine hx_pi (l := 73) (as := [.int z24, .int z33]) rfl rfl rfl (hp_X9_lesser (fz := fz) hFF (fun q hq => (by decide +kernel : ∀ q ∈ fb_X9_arrives, q ∈ fb_hp_X9_lesser) q (hfz q hq)) (d + 0)) hw hf ⟨(ck_top_ok (G := G) z24), (ck_top_ok (G := G) z33), trivial⟩ trivial (fun w35 z40 hw36 hf37 m38 a41 b42 u43 => ?_)
      rw [u43.1]
      have u44 := u43.2 _ _ _ rfl rfl
      refine hx_is (s := 32) (l := 74) rfl rfl rfl hw hG6 g12 (by omega) (by omega) (hx_sg1 (fun _ _ _ => ⟨by omega, by omega⟩) (hx_sg1 (fun _ _ _ => ⟨by omega, by omega⟩) (hx_sg1 (fun _ _ _ => ⟨by omega, by omega⟩) (hx_sg1 (fun _ _ _ => ⟨by omega, by omega⟩) (hx_sg1 (fun _ _ _ => ⟨by omega, by omega⟩) (hx_sg1 (fun _ _ _ => ⟨by omega, by omega⟩) (hx_sg1 (fun _ _ _ => ⟨by omega, by omega⟩) (hx_sg1 (fun _ _ _ => ⟨by omega, by omega⟩) (hx_sg1 (fun _ _ _ => ⟨by omega, by omega⟩) hx_sg0))))))))) (fun w45 f46 g47 e48 o49 n50 hw51 n52 => ?_)
      have hs53 := ty_same_tr (ty_same_rf w) (n52 fz (hx_ok hfz (by decide)))
      have kp55 := hf.1.1 _ _ hG6 g12
      have kq56 : kb z22.toInt.toNat z40.toInt := ⟨⟨fun _ => by omega, fun _ _ _ => by omega, fun _ _ _ => by omega, fun _ => by omega⟩, fun _ _ => by omega, fun _ _ _ => by omega, fun _ => by omega, fun _ => by omega, fun _ => by omega, fun _ => by omega, fun _ => by omega, fun _ _ => by omega⟩
      have hf54 : F9 G F w45 := ⟨FM_k hf.1 hG6 g47 n50 (KP_up kp55 o49 (by rw [e48]; exact kq56) (by omega)), hF _ _ (n52 prM (by decide)) hf.2⟩
      exact ax_ret rfl rfl trivial ⟨none, _, rfl, hw51, hf54, hs53, trivial, trivial⟩
    · -- 15
      refine ax_go 1 (y := (16, [some (.ref o), some (.int p), some (.int m), some (.int z14)], [.ref o], w, 0, 0)) rfl trivial ?_
      refine hx_gf (l := 19) rfl rfl rfl g2 e5 ?_
      refine hx_k (l := 21) (m := 69) rfl rfl (by decide) (fun z57 h58 => ?_)
      refine hx_k (l := 24) (m := 99999) rfl rfl (by decide) (fun z59 h60 => ?_)
      refine ax_go 1 (y := (25, [some (.ref o), some (.int p), some (.int m), some (.int z14)], [.ref o, .int z59, .int z57, .ref p4], w, 0, 0)) rfl trivial ?_
      refine hx_gf (l := 28) rfl rfl rfl g2 e5 ?_
      refine hx_k (l := 30) (m := 69) rfl rfl (by decide) (fun z61 h62 => ?_)
      refine hx_il (l := 31) rfl rfl g12 (by omega) (by omega) (fun z63 h64 => ?_)
      refine ax_go 1 (y := (32, [some (.ref o), some (.int p), some (.int m), some (.int z14)], [.int m, .int z63, .int z59, .int z57, .ref p4], w, 0, 0)) rfl trivial ?_
      refine hx_add (l := 33) rfl rfl (fun z65 h66 => ?_)
      refine hx_pi (l := 36) (as := [.int z59, .int z65]) rfl rfl rfl (hp_X9_lesser (fz := fz) hFF (fun q hq => (by decide +kernel : ∀ q ∈ fb_X9_arrives, q ∈ fb_hp_X9_lesser) q (hfz q hq)) (d + 0)) hw hf ⟨(ck_top_ok (G := G) z59), (ck_top_ok (G := G) z65), trivial⟩ trivial (fun w67 z72 hw68 hf69 m70 a73 b74 u75 => ?_)
      rw [u75.1]
      have u76 := u75.2 _ _ _ rfl rfl
      refine hx_is (s := 32) (l := 37) rfl rfl rfl hw hG6 g12 (by omega) (by omega) (hx_sg1 (fun _ _ _ => ⟨by omega, by omega⟩) (hx_sg1 (fun _ _ _ => ⟨by omega, by omega⟩) (hx_sg1 (fun _ _ _ => ⟨by omega, by omega⟩) (hx_sg1 (fun _ _ _ => ⟨by omega, by omega⟩) (hx_sg1 (fun _ _ _ => ⟨by omega, by omega⟩) (hx_sg1 (fun _ _ _ => ⟨by omega, by omega⟩) (hx_sg1 (fun _ _ _ => ⟨by omega, by omega⟩) (hx_sg1 (fun _ _ _ => ⟨by omega, by omega⟩) (hx_sg1 (fun _ _ _ => ⟨by omega, by omega⟩) hx_sg0))))))))) (fun w77 f78 g79 e80 o81 n82 hw83 n84 => ?_)
      have hs85 := ty_same_tr (ty_same_rf w) (n84 fz (hx_ok hfz (by decide)))
      have kp87 := hf.1.1 _ _ hG6 g12
      have kq88 : kb z57.toInt.toNat z72.toInt := ⟨⟨fun _ => by omega, fun _ _ _ => by omega, fun _ _ _ => by omega, fun _ => by omega⟩, fun _ _ => by omega, fun _ _ _ => by omega, fun _ => by omega, fun _ => by omega, fun _ => by omega, fun _ => by omega, fun _ => by omega, fun _ _ => by omega⟩
      have hf86 : F9 G F w77 := ⟨FM_k hf.1 hG6 g79 n82 (KP_up kp87 o81 (by rw [e80]; exact kq88) (by omega)), hF _ _ (n84 prM (by decide)) hf.2⟩
      refine ax_go 2 (y := (39, [some (.ref o), some (.int p), some (.int m), some (.int z14)], [.ref o, .ref o], w77, 0, 0)) rfl trivial ?_
      obtain ⟨x89, e90, a91, b92⟩ := hx_fi (k := 31) (lo := (-2147483648)) (hi := 2147483647) q3 rfl
      refine hx_gf (l := 42) rfl rfl rfl ((n82 _ (hx_ne hG0 hG6 (by decide))).trans g2) e90 ?_
      refine ax_go 1 (y := (43, [some (.ref o), some (.int p), some (.int m), some (.int z14)], [.int m, .int x89, .ref o], w77, 0, 0)) rfl trivial ?_
      refine hx_add (l := 44) rfl rfl (fun z93 h94 => ?_)
      refine hx_pf (q := (0, 0, 0, 0, (-2147483648), 2147483647)) (s := 30) (l := 47) (v := .int z93) rfl rfl rfl (by decide) rfl rfl rfl hw83 hG0 ((n82 _ (hx_ne hG0 hG6 (by decide))).trans g2) trivial (ck_top_ok (G := G) z93) (fun w95 fs96 g97 e98 o99 n100 hw101 n102 => ?_)
      have hs103 := ty_same_tr hs85 (n102 fz (hx_ok hfz (by decide)))
      have hf104 := hFF _ _ (n102 pr_ (by decide)) hf86
      refine ax_go 1 (y := (74, [some (.ref o), some (.int p), some (.int m), some (.int z14)], [], w95, 0, 0)) rfl trivial ?_
      exact ax_ret rfl rfl trivial ⟨none, _, rfl, hw101, hf104, hs103, trivial, trivial⟩
def fb_hp_X9_canParish : List (Nat × Nat) := [(8, 3), (8, 5), (19, 999), (32, 999), (33, 999), (34, 999), (35, 999), (44, 999), (45, 999), (1, 0), (18, 999), (2, 11), (2, 14), (1, 15), (54, 11), (4, 2), (7, 9), (30, 13), (30, 34), (30, 2), (30, 22), (30, 23), (30, 24), (30, 25), (46, 999), (47, 999), (30, 35), (30, 36)]
theorem hp_X9_canParish {ro : ab_R} {G : Nat → Nat} {fz : List (Nat × Nat)} {F : ab_W → Prop} (hF : ∀ w w', ty_same G prM w w' → F w → F w') (hfz : ∀ q ∈ fz, q ∈ fb_hp_X9_canParish) (d : Nat) : hx_ct ro sp_ G (F9 G F) fz (ab_Ev ro ab_codes (d + 2)) 134 [(2, 30, 0), (0, (-2147483648), 2147483647), (0, (-2147483648), 2147483647)] (some (0, 0, 1)) (fun _ _ => True) (fun as w v w1 => w1 = w ∧ ∀ (o : Nat) (p c : Int32) (q : Nat) (f : Nat → Int32) (z : Int32), as = [.ref o, .int p, .int c] → hx_has w o 9 2 (.ref q) → w[q]? = some (.inl (0, 5721, .inl f)) → v = some (.int z) → ((z.toInt ≠ 0 → -1 ≤ p.toInt ∧ p.toInt < (f 110).toInt ∧ 0 ≤ c.toInt ∧ c.toInt ≤ 999) ∧ (-1 ≤ p.toInt ∧ p.toInt < (f 110).toInt ∧ 0 ≤ c.toInt ∧ c.toInt ≤ 999 → z.toInt = 1))) := by
  have hFF := F9_same hF
  refine hx_hand (d := d + 1) (by decide) (fun as w hw hf has hP => ?_)
  match as, has with
  | [v0, v1, v2], ⟨h0, h1, h2, _⟩ =>
    obtain ⟨o, rfl, _, hG0⟩ := ty_refn h0 rfl rfl
    replace hG0 : G o = 30 := hG0
    obtain ⟨p, rfl, hl1, hh1⟩ := ty_int h1 rfl
    replace hl1 : ((-2147483648) : Int) ≤ p.toInt := hl1
    replace hh1 : p.toInt ≤ 2147483647 := hh1
    obtain ⟨c, rfl, hl2, hh2⟩ := ty_int h2 rfl
    replace hl2 : ((-2147483648) : Int) ≤ c.toInt := hl2
    replace hh2 : c.toInt ≤ 2147483647 := hh2
    refine ⟨rfl, ?_⟩
    change ab_wp ro (ab_Ev ro ab_codes (d + 1)) 9 false (some .boolean) ab_k_X9_canParish (fun o_1 => ∃ v w1, o_1 = (v, w1, 0, 0) ∧ ty_w sp_ G w1 ∧ (F9 G F) w1 ∧ ty_same G fz w w1 ∧ ck_res G (some (0, 0, 1)) v ∧ (fun as w v w1 => w1 = w ∧ ∀ (o : Nat) (p c : Int32) (q : Nat) (f : Nat → Int32) (z : Int32), as = [.ref o, .int p, .int c] → hx_has w o 9 2 (.ref q) → w[q]? = some (.inl (0, 5721, .inl f)) → v = some (.int z) → ((z.toInt ≠ 0 → -1 ≤ p.toInt ∧ p.toInt < (f 110).toInt ∧ 0 ≤ c.toInt ∧ c.toInt ≤ 999) ∧ (-1 ≤ p.toInt ∧ p.toInt < (f 110).toInt ∧ 0 ≤ c.toInt ∧ c.toInt ≤ 999 → z.toInt = 1))) ([.ref o, .int p, .int c] : List Value) w v w1) (0, [some (.ref o), some (.int p), some (.int c)], [], w, 0, 0)
    refine ax_go 1 (y := (1, [some (.ref o), some (.int p), some (.int c)], [.int p], w, 0, 0)) rfl trivial ?_
    refine hx_k (l := 2) (m := (-1)) rfl rfl (by decide) (fun z1 h2 => ?_)
    refine ax_go 1 (y := (3, [some (.ref o), some (.int p), some (.int c)], [.ref o, .int z1, .int p], w, 0, 0)) rfl trivial ?_
    obtain ⟨fs3, g4, _, q5⟩ := hx_obj hw hG0 (s := 30) rfl (by decide)
    obtain ⟨p6, e7, hG8⟩ := hx_fr (k := 2) (s := 32) q5 rfl
    refine hx_gf (l := 6) rfl rfl rfl g4 e7 ?_
    refine hx_k (l := 8) (m := 110) rfl rfl (by decide) (fun z9 h10 => ?_)
    obtain ⟨f11, g12, r13⟩ := hx_row hw hG8 (s := 32) (kd := 0) (n := 5721) rfl (by decide)
    refine hx_il (l := 9) rfl rfl g12 (by omega) (by omega) (fun z14 h15 => ?_)
    have b16 := ((hf.1.1 _ _ hG8 g12).1 z9.toInt.toNat (by omega)).2.2.2.2.1 (by omega)
    rw [← h15] at b16
    rw [show z9.toInt.toNat = 110 by omega] at h15
    replace h15 := congrArg Int32.toInt h15
    refine hx_k (l := 10) (m := 1) rfl rfl (by decide) (fun z17 h18 => ?_)
    refine hx_sub (l := 11) rfl rfl (fun z19 h20 => ?_)
    replace h20 := h20 (by omega) (by omega)
    refine hx_pi (l := 14) (as := [.int p, .int z1, .int z19]) rfl rfl rfl (hp_X9_lies (fz := fz) hFF (fun q hq => (by decide +kernel : ∀ q ∈ fb_hp_X9_canParish, q ∈ fb_hp_X9_lies) q (hfz q hq)) (d + 0)) hw hf ⟨(ck_top_ok (G := G) p), (ck_top_ok (G := G) z1), (ck_top_ok (G := G) z19), trivial⟩ trivial (fun w21 z26 hw22 hf23 m24 a27 b28 u29 => ?_)
    rw [u29.1]
    have u30 := u29.2 _ _ _ _ rfl rfl
    refine hx_if_eq (l := 17) rfl rfl (fun h31 => ?_) (fun h31 => ?_)
    · -- 32
      refine hx_k (l := 33) (m := 0) rfl rfl (by decide) (fun z32 h33 => ?_)
      exact ax_ret rfl rfl ⟨hx_01 (by omega) (by omega), trivial⟩ ⟨some (.int z32), _, rfl, hw, hf, (ty_same_rf w), (hx_ti (G := G) (lo := 0) (hi := 1) (by omega) (by omega)), ⟨rfl, fun o1 p1 c1 q1 f1 z1 h1 h2 h3 h4 => by cases h1; cases h4; obtain ⟨fs1, g1, e1⟩ := h2; obtain rfl := hx_inj g4 g1; cases e7.symm.trans e1; obtain rfl := hx_injr g12 h3; exact ⟨fun hz => ⟨by omega, by omega, by omega, by omega⟩, fun hz => by omega⟩⟩⟩
    · -- 17
      refine ax_go 1 (y := (18, [some (.ref o), some (.int p), some (.int c)], [.int c], w, 0, 0)) rfl trivial ?_
      refine hx_k (l := 19) (m := 0) rfl rfl (by decide) (fun z34 h35 => ?_)
      refine hx_k (l := 22) (m := 999) rfl rfl (by decide) (fun z36 h37 => ?_)
      refine hx_pi (l := 25) (as := [.int c, .int z34, .int z36]) rfl rfl rfl (hp_X9_lies (fz := fz) hFF (fun q hq => (by decide +kernel : ∀ q ∈ fb_hp_X9_canParish, q ∈ fb_hp_X9_lies) q (hfz q hq)) (d + 0)) hw hf ⟨(ck_top_ok (G := G) c), (ck_top_ok (G := G) z34), (ck_top_ok (G := G) z36), trivial⟩ trivial (fun w38 z43 hw39 hf40 m41 a44 b45 u46 => ?_)
      rw [u46.1]
      have u47 := u46.2 _ _ _ _ rfl rfl
      refine hx_if_eq (l := 28) rfl rfl (fun h48 => ?_) (fun h48 => ?_)
      · -- 32
        refine hx_k (l := 33) (m := 0) rfl rfl (by decide) (fun z49 h50 => ?_)
        exact ax_ret rfl rfl ⟨hx_01 (by omega) (by omega), trivial⟩ ⟨some (.int z49), _, rfl, hw, hf, (ty_same_rf w), (hx_ti (G := G) (lo := 0) (hi := 1) (by omega) (by omega)), ⟨rfl, fun o1 p1 c1 q1 f1 z1 h1 h2 h3 h4 => by cases h1; cases h4; obtain ⟨fs1, g1, e1⟩ := h2; obtain rfl := hx_inj g4 g1; cases e7.symm.trans e1; obtain rfl := hx_injr g12 h3; exact ⟨fun hz => ⟨by omega, by omega, by omega, by omega⟩, fun hz => by omega⟩⟩⟩
      · -- 28
        refine hx_k (l := 29) (m := 1) rfl rfl (by decide) (fun z51 h52 => ?_)
        refine ax_go 1 (y := (33, [some (.ref o), some (.int p), some (.int c)], [.int z51], w, 0, 0)) rfl trivial ?_
        exact ax_ret rfl rfl ⟨hx_01 (by omega) (by omega), trivial⟩ ⟨some (.int z51), _, rfl, hw, hf, (ty_same_rf w), (hx_ti (G := G) (lo := 0) (hi := 1) (by omega) (by omega)), ⟨rfl, fun o1 p1 c1 q1 f1 z1 h1 h2 h3 h4 => by cases h1; cases h4; obtain ⟨fs1, g1, e1⟩ := h2; obtain rfl := hx_inj g4 g1; cases e7.symm.trans e1; obtain rfl := hx_injr g12 h3; exact ⟨fun hz => ⟨by omega, by omega, by omega, by omega⟩, fun hz => by omega⟩⟩⟩
def fb_hp_X9_addsParish : List (Nat × Nat) := [(8, 3), (8, 5), (19, 999), (33, 999), (34, 999), (35, 999), (44, 999), (45, 999), (1, 0), (18, 999), (2, 11), (2, 14), (1, 15), (54, 11), (4, 2), (7, 9), (30, 13), (30, 34), (30, 2), (30, 22), (30, 23), (30, 24), (30, 25), (46, 999), (47, 999), (30, 35), (30, 36)]
theorem hp_X9_addsParish {ro : ab_R} {G : Nat → Nat} {fz : List (Nat × Nat)} {F : ab_W → Prop} (hF : ∀ w w', ty_same G prM w w' → F w → F w') (hfz : ∀ q ∈ fz, q ∈ fb_hp_X9_addsParish) (d : Nat) : hx_ct ro sp_ G (F9 G F) fz (ab_Ev ro ab_codes (d + 1)) 135 [(2, 30, 0), (0, (-2147483648), 2147483647), (0, (-2147483648), 2147483647)] none (fun as w => ∀ (o : Nat) (be : Int32) (co : Int32) (pk : Nat) (f : Nat → Int32), as = [.ref o, .int be, .int co] → hx_has w o 9 2 (.ref pk) → w[pk]? = some (.inl (0, 5721, .inl f)) → (f 110).toInt ≤ 9 ∧ -1 ≤ be.toInt ∧ be.toInt < (f 110).toInt ∧ 0 ≤ co.toInt ∧ co.toInt ≤ 999) (fun _ _ _ _ => True) := by
  have hFF := F9_same hF
  refine hx_hand (d := d + 0) (by decide) (fun as w hw hf has hP => ?_)
  match as, has with
  | [v0, v1, v2], ⟨h0, h1, h2, _⟩ =>
    obtain ⟨o, rfl, _, hG0⟩ := ty_refn h0 rfl rfl
    replace hG0 : G o = 30 := hG0
    obtain ⟨be, rfl, hl1, hh1⟩ := ty_int h1 rfl
    replace hl1 : ((-2147483648) : Int) ≤ be.toInt := hl1
    replace hh1 : be.toInt ≤ 2147483647 := hh1
    obtain ⟨co, rfl, hl2, hh2⟩ := ty_int h2 rfl
    replace hl2 : ((-2147483648) : Int) ≤ co.toInt := hl2
    replace hh2 : co.toInt ≤ 2147483647 := hh2
    refine ⟨rfl, ?_⟩
    obtain ⟨fs1, g2, _, q3⟩ := hx_obj hw hG0 (s := 30) rfl (by decide)
    obtain ⟨pk, e_pk, hG_pk⟩ := hx_fr (k := 2) (s := 32) q3 rfl
    obtain ⟨f0, g_f0, r_f0⟩ := hx_row hw hG_pk (s := 32) (kd := 0) (n := 5721) rfl (by decide)
    have hp0 := hP o be co pk f0 rfl ⟨_, g2, e_pk⟩ g_f0
    change ab_wp ro (ab_Ev ro ab_codes d) 9 false none ab_k_X9_addsParish (fun o_1 => ∃ v w1, o_1 = (v, w1, 0, 0) ∧ ty_w sp_ G w1 ∧ (F9 G F) w1 ∧ ty_same G fz w w1 ∧ ck_res G none v ∧ (fun _ _ _ _ => True) ([.ref o, .int be, .int co] : List Value) w v w1) (0, [some (.ref o), some (.int be), some (.int co), none], [], w, 0, 0)
    refine ax_go 1 (y := (1, [some (.ref o), some (.int be), some (.int co), none], [.ref o], w, 0, 0)) rfl trivial ?_
    refine hx_gf (l := 4) rfl rfl rfl g2 e_pk ?_
    refine hx_k (l := 6) (m := 110) rfl rfl (by decide) (fun z4 h5 => ?_)
    refine hx_il (l := 7) rfl rfl g_f0 (by omega) (by omega) (fun z6 h7 => ?_)
    have b8 := ((hf.1.1 _ _ hG_pk g_f0).1 z4.toInt.toNat (by omega)).2.2.2.2.1 (by omega)
    rw [← h7] at b8
    rw [show z4.toInt.toNat = 110 by omega] at h7
    replace h7 := congrArg Int32.toInt h7
    refine ax_go 2 (y := (9, [some (.ref o), some (.int be), some (.int co), some (.int z6)], [.ref o], w, 0, 0)) rfl trivial ?_
    refine hx_gf (l := 12) rfl rfl rfl g2 e_pk ?_
    refine hx_k (l := 14) (m := 71) rfl rfl (by decide) (fun z9 h10 => ?_)
    refine ax_go 1 (y := (15, [some (.ref o), some (.int be), some (.int co), some (.int z6)], [.int z6, .int z9, .ref pk], w, 0, 0)) rfl trivial ?_
    refine hx_add (l := 16) rfl rfl (fun z11 h12 => ?_)
    replace h12 := h12 (by omega) (by omega)
    refine ax_go 1 (y := (17, [some (.ref o), some (.int be), some (.int co), some (.int z6)], [.int be, .int z11, .ref pk], w, 0, 0)) rfl trivial ?_
    refine hx_is (s := 32) (l := 18) rfl rfl rfl hw hG_pk g_f0 (by omega) (by omega) (hx_sg1 (fun _ _ _ => ⟨by omega, by omega⟩) (hx_sg1 (fun _ _ _ => ⟨by omega, by omega⟩) (hx_sg1 (fun _ _ _ => ⟨by omega, by omega⟩) (hx_sg1 (fun _ _ _ => ⟨by omega, by omega⟩) (hx_sg1 (fun _ _ _ => ⟨by omega, by omega⟩) (hx_sg1 (fun _ _ _ => ⟨by omega, by omega⟩) (hx_sg1 (fun _ _ _ => ⟨by omega, by omega⟩) (hx_sg1 (fun _ _ _ => ⟨by omega, by omega⟩) (hx_sg1 (fun _ _ _ => ⟨by omega, by omega⟩) hx_sg0))))))))) (fun w13 f14 g15 e16 o17 n18 hw19 n20 => ?_)
    have hs21 := ty_same_tr (ty_same_rf w) (n20 fz (hx_ok hfz (by decide)))
    have kp23 := hf.1.1 _ _ hG_pk g_f0
    have kq17 : kb z11.toInt.toNat be.toInt := ⟨⟨fun _ => by omega, fun _ _ _ => by omega, fun _ _ _ => by omega, fun _ => by omega⟩, fun _ _ => by omega, fun _ _ _ => by omega, fun _ => by omega, fun _ => by omega, fun _ => by omega, fun _ => by omega, fun _ => by omega, fun _ _ => by omega⟩
    have hf22 : F9 G F w13 := ⟨FM_k hf.1 hG_pk g15 n18 (KP_up2 kp23 o17 (fun _ => by rw [e16]; exact kq17) (by omega) (fun e => by rw [e16]; omega) (fun e => by omega)), hF _ _ (n20 prM (by decide)) hf.2⟩
    refine ax_go 1 (y := (19, [some (.ref o), some (.int be), some (.int co), some (.int z6)], [.ref o], w13, 0, 0)) rfl trivial ?_
    refine hx_gf (l := 22) rfl rfl rfl ((n18 _ (hx_ne hG0 hG_pk (by decide))).trans g2) e_pk ?_
    refine hx_k (l := 23) (m := 0) rfl rfl (by decide) (fun z25 h26 => ?_)
    refine ax_go 1 (y := (24, [some (.ref o), some (.int be), some (.int co), some (.int z6)], [.int z6, .int z25, .ref pk], w13, 0, 0)) rfl trivial ?_
    refine hx_add (l := 25) rfl rfl (fun z27 h28 => ?_)
    replace h28 := h28 (by omega) (by omega)
    refine ax_go 1 (y := (26, [some (.ref o), some (.int be), some (.int co), some (.int z6)], [.int co, .int z27, .ref pk], w13, 0, 0)) rfl trivial ?_
    refine hx_is (s := 32) (l := 27) rfl rfl rfl hw19 hG_pk g15 (by omega) (by omega) (hx_sg1 (fun _ _ _ => ⟨by omega, by omega⟩) (hx_sg1 (fun _ _ _ => ⟨by omega, by omega⟩) (hx_sg1 (fun _ _ _ => ⟨by omega, by omega⟩) (hx_sg1 (fun _ _ _ => ⟨by omega, by omega⟩) (hx_sg1 (fun _ _ _ => ⟨by omega, by omega⟩) (hx_sg1 (fun _ _ _ => ⟨by omega, by omega⟩) (hx_sg1 (fun _ _ _ => ⟨by omega, by omega⟩) (hx_sg1 (fun _ _ _ => ⟨by omega, by omega⟩) (hx_sg1 (fun _ _ _ => ⟨by omega, by omega⟩) hx_sg0))))))))) (fun w29 f30 g31 e32 o33 n34 hw35 n36 => ?_)
    have hs37 := ty_same_tr hs21 (n36 fz (hx_ok hfz (by decide)))
    have kp39 := hf22.1.1 _ _ hG_pk g15
    have kq40 : kb z27.toInt.toNat co.toInt := ⟨⟨fun _ => by omega, fun _ _ _ => by omega, fun _ _ _ => by omega, fun _ => by omega⟩, fun _ _ => by omega, fun _ _ _ => by omega, fun _ => by omega, fun _ => by omega, fun _ => by omega, fun _ => by omega, fun _ => by omega, fun _ _ => by omega⟩
    have hf38 : F9 G F w29 := ⟨FM_k hf22.1 hG_pk g31 n34 (KP_up kp39 o33 (by rw [e32]; exact kq40) (by omega)), hF _ _ (n36 prM (by decide)) hf22.2⟩
    refine ax_go 1 (y := (28, [some (.ref o), some (.int be), some (.int co), some (.int z6)], [.ref o], w29, 0, 0)) rfl trivial ?_
    refine hx_gf (l := 31) rfl rfl rfl ((n34 _ (hx_ne hG0 hG_pk (by decide))).trans ((n18 _ (hx_ne hG0 hG_pk (by decide))).trans g2)) e_pk ?_
    refine hx_k (l := 33) (m := 10) rfl rfl (by decide) (fun z41 h42 => ?_)
    refine ax_go 1 (y := (34, [some (.ref o), some (.int be), some (.int co), some (.int z6)], [.int z6, .int z41, .ref pk], w29, 0, 0)) rfl trivial ?_
    refine hx_add (l := 35) rfl rfl (fun z43 h44 => ?_)
    replace h44 := h44 (by omega) (by omega)
    refine hx_k (l := 36) (m := 0) rfl rfl (by decide) (fun z45 h46 => ?_)
    refine hx_is (s := 32) (l := 37) rfl rfl rfl hw35 hG_pk g31 (by omega) (by omega) (hx_sg1 (fun _ _ _ => ⟨by omega, by omega⟩) (hx_sg1 (fun _ _ _ => ⟨by omega, by omega⟩) (hx_sg1 (fun _ _ _ => ⟨by omega, by omega⟩) (hx_sg1 (fun _ _ _ => ⟨by omega, by omega⟩) (hx_sg1 (fun _ _ _ => ⟨by omega, by omega⟩) (hx_sg1 (fun _ _ _ => ⟨by omega, by omega⟩) (hx_sg1 (fun _ _ _ => ⟨by omega, by omega⟩) (hx_sg1 (fun _ _ _ => ⟨by omega, by omega⟩) (hx_sg1 (fun _ _ _ => ⟨by omega, by omega⟩) hx_sg0))))))))) (fun w47 f48 g49 e50 o51 n52 hw53 n54 => ?_)
    have hs55 := ty_same_tr hs37 (n54 fz (hx_ok hfz (by decide)))
    have kp57 := hf38.1.1 _ _ hG_pk g31
    have kq58 : kb z43.toInt.toNat z45.toInt := ⟨⟨fun _ => by omega, fun _ _ _ => by omega, fun _ _ _ => by omega, fun _ => by omega⟩, fun _ _ => by omega, fun _ _ _ => by omega, fun _ => by omega, fun _ => by omega, fun _ => by omega, fun _ => by omega, fun _ => by omega, fun _ _ => by omega⟩
    have hf56 : F9 G F w47 := ⟨FM_k hf38.1 hG_pk g49 n52 (KP_up kp57 o51 (by rw [e50]; exact kq58) (by omega)), hF _ _ (n54 prM (by decide)) hf38.2⟩
    refine ax_go 1 (y := (38, [some (.ref o), some (.int be), some (.int co), some (.int z6)], [.ref o], w47, 0, 0)) rfl trivial ?_
    refine hx_gf (l := 41) rfl rfl rfl ((n52 _ (hx_ne hG0 hG_pk (by decide))).trans ((n34 _ (hx_ne hG0 hG_pk (by decide))).trans ((n18 _ (hx_ne hG0 hG_pk (by decide))).trans g2))) e_pk ?_
    refine hx_k (l := 43) (m := 81) rfl rfl (by decide) (fun z59 h60 => ?_)
    refine ax_go 1 (y := (44, [some (.ref o), some (.int be), some (.int co), some (.int z6)], [.int z6, .int z59, .ref pk], w47, 0, 0)) rfl trivial ?_
    refine hx_add (l := 45) rfl rfl (fun z61 h62 => ?_)
    replace h62 := h62 (by omega) (by omega)
    refine ax_go 1 (y := (46, [some (.ref o), some (.int be), some (.int co), some (.int z6)], [.int be, .int z61, .ref pk], w47, 0, 0)) rfl trivial ?_
    refine hx_k (l := 47) (m := (-1)) rfl rfl (by decide) (fun z63 h64 => ?_)
    refine hx_ic_ne (l := 50) rfl rfl (fun h65 => ?_) (fun h65 => ?_)
    · -- 54
      refine ax_go 1 (y := (55, [some (.ref o), some (.int be), some (.int co), some (.int z6)], [.ref o, .int z61, .ref pk], w47, 0, 0)) rfl trivial ?_
      refine hx_gf (l := 58) rfl rfl rfl ((n52 _ (hx_ne hG0 hG_pk (by decide))).trans ((n34 _ (hx_ne hG0 hG_pk (by decide))).trans ((n18 _ (hx_ne hG0 hG_pk (by decide))).trans g2))) e_pk ?_
      refine hx_k (l := 60) (m := 81) rfl rfl (by decide) (fun z66 h67 => ?_)
      refine ax_go 1 (y := (61, [some (.ref o), some (.int be), some (.int co), some (.int z6)], [.int be, .int z66, .ref pk, .int z61, .ref pk], w47, 0, 0)) rfl trivial ?_
      refine hx_add (l := 62) rfl rfl (fun z68 h69 => ?_)
      replace h69 := h69 (by omega) (by omega)
      have r70 := hx_rq hw53 g49 hG_pk (s := 32) rfl
      refine hx_il (l := 63) rfl rfl g49 (by omega) (by omega) (fun z71 h72 => ?_)
      refine hx_k (l := 64) (m := 1) rfl rfl (by decide) (fun z73 h74 => ?_)
      refine hx_add (l := 65) rfl rfl (fun z75 h76 => ?_)
      refine hx_is (s := 32) (l := 66) rfl rfl rfl hw53 hG_pk g49 (by omega) (by omega) (hx_sg1 (fun _ _ _ => ⟨by omega, by omega⟩) (hx_sg1 (fun _ _ _ => ⟨by omega, by omega⟩) (hx_sg1 (fun _ _ _ => ⟨by omega, by omega⟩) (hx_sg1 (fun _ _ _ => ⟨by omega, by omega⟩) (hx_sg1 (fun _ _ _ => ⟨by omega, by omega⟩) (hx_sg1 (fun _ _ _ => ⟨by omega, by omega⟩) (hx_sg1 (fun _ _ _ => ⟨by omega, by omega⟩) (hx_sg1 (fun _ _ _ => ⟨by omega, by omega⟩) (hx_sg1 (fun _ _ _ => ⟨by omega, by omega⟩) hx_sg0))))))))) (fun w77 f78 g79 e80 o81 n82 hw83 n84 => ?_)
      have hs85 := ty_same_tr hs55 (n84 fz (hx_ok hfz (by decide)))
      have kp87 := hf56.1.1 _ _ hG_pk g49
      have kq88 : kb z61.toInt.toNat z75.toInt := ⟨⟨fun _ => by omega, fun _ _ _ => by omega, fun _ _ _ => by omega, fun _ => by omega⟩, fun _ _ => by omega, fun _ _ _ => by omega, fun _ => by omega, fun _ => by omega, fun _ => by omega, fun _ => by omega, fun _ => by omega, fun _ _ => by omega⟩
      have hf86 : F9 G F w77 := ⟨FM_k hf56.1 hG_pk g79 n82 (KP_up kp87 o81 (by rw [e80]; exact kq88) (by omega)), hF _ _ (n84 prM (by decide)) hf56.2⟩
      refine ax_go 1 (y := (67, [some (.ref o), some (.int be), some (.int co), some (.int z6)], [.ref o], w77, 0, 0)) rfl trivial ?_
      refine hx_gf (l := 70) rfl rfl rfl ((n82 _ (hx_ne hG0 hG_pk (by decide))).trans ((n52 _ (hx_ne hG0 hG_pk (by decide))).trans ((n34 _ (hx_ne hG0 hG_pk (by decide))).trans ((n18 _ (hx_ne hG0 hG_pk (by decide))).trans g2)))) e_pk ?_
      refine hx_k (l := 72) (m := 110) rfl rfl (by decide) (fun z89 h90 => ?_)
      refine ax_go 1 (y := (73, [some (.ref o), some (.int be), some (.int co), some (.int z6)], [.int z89, .ref pk, .int z89, .ref pk], w77, 0, 0)) rfl trivial ?_
      have r91 := hx_rq hw83 g79 hG_pk (s := 32) rfl
      refine hx_il (l := 74) rfl rfl g79 (by omega) (by omega) (fun z92 h93 => ?_)
      rw [show z89.toInt.toNat = 110 by omega, o81 110 (by omega), o51 110 (by omega), o33 110 (by omega), o17 110 (by omega)] at h93
      replace h93 := congrArg Int32.toInt h93
      refine hx_k (l := 75) (m := 1) rfl rfl (by decide) (fun z94 h95 => ?_)
      refine hx_add (l := 76) rfl rfl (fun z96 h97 => ?_)
      replace h97 := h97 (by omega) (by omega)
      refine hx_is (s := 32) (l := 77) rfl rfl rfl hw83 hG_pk g79 (by omega) (by omega) (hx_sg1 (fun _ _ _ => ⟨by omega, by omega⟩) (hx_sg1 (fun _ _ _ => ⟨by omega, by omega⟩) (hx_sg1 (fun _ _ _ => ⟨by omega, by omega⟩) (hx_sg1 (fun _ _ _ => ⟨by omega, by omega⟩) (hx_sg1 (fun _ _ _ => ⟨by omega, by omega⟩) (hx_sg1 (fun _ _ _ => ⟨by omega, by omega⟩) (hx_sg1 (fun _ _ _ => ⟨by omega, by omega⟩) (hx_sg1 (fun _ _ _ => ⟨by omega, by omega⟩) (hx_sg1 (fun _ _ _ => ⟨by omega, by omega⟩) hx_sg0))))))))) (fun w98 f99 g100 e101 o102 n103 hw104 n105 => ?_)
      have hs106 := ty_same_tr hs85 (n105 fz (hx_ok hfz (by decide)))
      have kp108 := hf86.1.1 _ _ hG_pk g79
      have h71 : (f78 71).toInt = -1 := by
        rw [o81 71 (by omega), o51 71 (by omega), o33 71 (by omega)]
        by_cases zz : (f0 110).toInt = 0
        · rw [show 71 = z11.toInt.toNat by omega, e16]
          omega
        · rw [o17 71 (by omega)]
          exact (hf.1.1 _ _ hG_pk g_f0).2.1 (by omega)
      have kq76 : kb z89.toInt.toNat z96.toInt := ⟨⟨fun _ => by omega, fun _ _ _ => by omega, fun _ _ _ => by omega, fun _ => by omega⟩, fun _ _ => by omega, fun _ _ _ => by omega, fun _ => by omega, fun _ => by omega, fun _ => by omega, fun _ => by omega, fun _ => by omega, fun _ _ => by omega⟩
      have hf107 : F9 G F w98 := ⟨FM_k hf86.1 hG_pk g100 n103 (KP_up2 kp108 o102 (fun _ => by rw [e101]; exact kq76) (by omega) (fun e => by omega) (fun _ => Or.inr h71)), hF _ _ (n105 prM (by decide)) hf86.2⟩
      exact ax_ret rfl rfl trivial ⟨none, _, rfl, hw104, hf107, hs106, trivial, trivial⟩
    · -- 50
      refine hx_k (l := 51) (m := 0) rfl rfl (by decide) (fun z110 h111 => ?_)
      refine ax_go 1 (y := (65, [some (.ref o), some (.int be), some (.int co), some (.int z6)], [.int z110, .int z61, .ref pk], w47, 0, 0)) rfl trivial ?_
      refine hx_is (s := 32) (l := 66) rfl rfl rfl hw53 hG_pk g49 (by omega) (by omega) (hx_sg1 (fun _ _ _ => ⟨by omega, by omega⟩) (hx_sg1 (fun _ _ _ => ⟨by omega, by omega⟩) (hx_sg1 (fun _ _ _ => ⟨by omega, by omega⟩) (hx_sg1 (fun _ _ _ => ⟨by omega, by omega⟩) (hx_sg1 (fun _ _ _ => ⟨by omega, by omega⟩) (hx_sg1 (fun _ _ _ => ⟨by omega, by omega⟩) (hx_sg1 (fun _ _ _ => ⟨by omega, by omega⟩) (hx_sg1 (fun _ _ _ => ⟨by omega, by omega⟩) (hx_sg1 (fun _ _ _ => ⟨by omega, by omega⟩) hx_sg0))))))))) (fun w112 f113 g114 e115 o116 n117 hw118 n119 => ?_)
      have hs120 := ty_same_tr hs55 (n119 fz (hx_ok hfz (by decide)))
      have kp122 := hf56.1.1 _ _ hG_pk g49
      have kq123 : kb z61.toInt.toNat z110.toInt := ⟨⟨fun _ => by omega, fun _ _ _ => by omega, fun _ _ _ => by omega, fun _ => by omega⟩, fun _ _ => by omega, fun _ _ _ => by omega, fun _ => by omega, fun _ => by omega, fun _ => by omega, fun _ => by omega, fun _ => by omega, fun _ _ => by omega⟩
      have hf121 : F9 G F w112 := ⟨FM_k hf56.1 hG_pk g114 n117 (KP_up kp122 o116 (by rw [e115]; exact kq123) (by omega)), hF _ _ (n119 prM (by decide)) hf56.2⟩
      refine ax_go 1 (y := (67, [some (.ref o), some (.int be), some (.int co), some (.int z6)], [.ref o], w112, 0, 0)) rfl trivial ?_
      refine hx_gf (l := 70) rfl rfl rfl ((n117 _ (hx_ne hG0 hG_pk (by decide))).trans ((n52 _ (hx_ne hG0 hG_pk (by decide))).trans ((n34 _ (hx_ne hG0 hG_pk (by decide))).trans ((n18 _ (hx_ne hG0 hG_pk (by decide))).trans g2)))) e_pk ?_
      refine hx_k (l := 72) (m := 110) rfl rfl (by decide) (fun z124 h125 => ?_)
      refine ax_go 1 (y := (73, [some (.ref o), some (.int be), some (.int co), some (.int z6)], [.int z124, .ref pk, .int z124, .ref pk], w112, 0, 0)) rfl trivial ?_
      have r126 := hx_rq hw118 g114 hG_pk (s := 32) rfl
      refine hx_il (l := 74) rfl rfl g114 (by omega) (by omega) (fun z127 h128 => ?_)
      rw [show z124.toInt.toNat = 110 by omega, o116 110 (by omega), o51 110 (by omega), o33 110 (by omega), o17 110 (by omega)] at h128
      replace h128 := congrArg Int32.toInt h128
      refine hx_k (l := 75) (m := 1) rfl rfl (by decide) (fun z129 h130 => ?_)
      refine hx_add (l := 76) rfl rfl (fun z131 h132 => ?_)
      replace h132 := h132 (by omega) (by omega)
      refine hx_is (s := 32) (l := 77) rfl rfl rfl hw118 hG_pk g114 (by omega) (by omega) (hx_sg1 (fun _ _ _ => ⟨by omega, by omega⟩) (hx_sg1 (fun _ _ _ => ⟨by omega, by omega⟩) (hx_sg1 (fun _ _ _ => ⟨by omega, by omega⟩) (hx_sg1 (fun _ _ _ => ⟨by omega, by omega⟩) (hx_sg1 (fun _ _ _ => ⟨by omega, by omega⟩) (hx_sg1 (fun _ _ _ => ⟨by omega, by omega⟩) (hx_sg1 (fun _ _ _ => ⟨by omega, by omega⟩) (hx_sg1 (fun _ _ _ => ⟨by omega, by omega⟩) (hx_sg1 (fun _ _ _ => ⟨by omega, by omega⟩) hx_sg0))))))))) (fun w133 f134 g135 e136 o137 n138 hw139 n140 => ?_)
      have hs141 := ty_same_tr hs120 (n140 fz (hx_ok hfz (by decide)))
      have kp143 := hf121.1.1 _ _ hG_pk g114
      have h71 : (f113 71).toInt = -1 := by
        rw [o116 71 (by omega), o51 71 (by omega), o33 71 (by omega)]
        by_cases zz : (f0 110).toInt = 0
        · rw [show 71 = z11.toInt.toNat by omega, e16]
          omega
        · rw [o17 71 (by omega)]
          exact (hf.1.1 _ _ hG_pk g_f0).2.1 (by omega)
      have kq76 : kb z124.toInt.toNat z131.toInt := ⟨⟨fun _ => by omega, fun _ _ _ => by omega, fun _ _ _ => by omega, fun _ => by omega⟩, fun _ _ => by omega, fun _ _ _ => by omega, fun _ => by omega, fun _ => by omega, fun _ => by omega, fun _ => by omega, fun _ => by omega, fun _ _ => by omega⟩
      have hf142 : F9 G F w133 := ⟨FM_k hf121.1 hG_pk g135 n138 (KP_up2 kp143 o137 (fun _ => by rw [e136]; exact kq76) (by omega) (fun e => by omega) (fun _ => Or.inr h71)), hF _ _ (n140 prM (by decide)) hf121.2⟩
      exact ax_ret rfl rfl trivial ⟨none, _, rfl, hw139, hf142, hs141, trivial, trivial⟩
def fb_X9_parish : List (Nat × Nat) := [(8, 3), (8, 5), (19, 999), (33, 999), (34, 999), (35, 999), (44, 999), (45, 999), (1, 0), (18, 999), (2, 11), (2, 14), (1, 15), (54, 11), (4, 2), (7, 9), (30, 13), (30, 2), (30, 22), (30, 23), (30, 24), (30, 25), (46, 999), (47, 999), (30, 35), (30, 36)]
theorem h_X9_parish {ro : ab_R} {G : Nat → Nat} {fz : List (Nat × Nat)} {F : ab_W → Prop} (hF : ∀ w w', ty_same G prM w w' → F w → F w') (hfz : ∀ q ∈ fz, q ∈ fb_X9_parish) (d : Nat) : ck_ct ro sp_ G (F9 G F) fz (ab_Ev ro ab_codes (d + 3)) 136 [(2, 30, 0), (0, (-2147483648), 2147483647), (0, (-2147483648), 2147483647)] (some (0, (-2147483648), 2147483647)) 0 0 := by
  have hFF := F9_same hF
  refine ck_hand (d := d + 2) (by decide) (fun as w hw hf has => ?_)
  match as, has with
  | [v0, v1, v2], ⟨h0, h1, h2, _⟩ =>
    obtain ⟨o, rfl, _, hG0⟩ := ty_refn h0 rfl rfl
    replace hG0 : G o = 30 := hG0
    obtain ⟨be, rfl, hl1, hh1⟩ := ty_int h1 rfl
    replace hl1 : ((-2147483648) : Int) ≤ be.toInt := hl1
    replace hh1 : be.toInt ≤ 2147483647 := hh1
    obtain ⟨co, rfl, hl2, hh2⟩ := ty_int h2 rfl
    replace hl2 : ((-2147483648) : Int) ≤ co.toInt := hl2
    replace hh2 : co.toInt ≤ 2147483647 := hh2
    refine ⟨rfl, ?_⟩
    change ab_wp ro (ab_Ev ro ab_codes (d + 2)) 9 false (some .int) ab_k_X9_parish (fun o_1 => ∃ v w1, o_1 = (v, w1, 0, 0) ∧ ty_w sp_ G w1 ∧ (F9 G F) w1 ∧ ty_same G fz w w1 ∧ ck_res G (some (0, (-2147483648), 2147483647)) v ∧ ck_wit 0 0 [.ref o, .int be, .int co] v) (0, [some (.ref o), some (.int be), some (.int co)], [], w, 0, 0)
    refine ax_go 3 (y := (3, [some (.ref o), some (.int be), some (.int co)], [.int co, .int be, .ref o], w, 0, 0)) rfl trivial ?_
    obtain ⟨fs1, g2, _, q3⟩ := hx_obj hw hG0 (s := 30) rfl (by decide)
    refine hx_pi (l := 6) (as := [.ref o, .int be, .int co]) rfl rfl (hx_iv (j := 134) (n := 2) (o := o) (r := []) rfl rfl g2 rfl) (hp_X9_canParish (fz := fz) hF (fun q hq => (by decide +kernel : ∀ q ∈ fb_X9_parish, q ∈ fb_hp_X9_canParish) q (hfz q hq)) (d + 0)) hw hf ⟨(hx_tr (G := G) (s := 30) (b := 0) hG0 (by decide)), (ck_top_ok (G := G) be), (ck_top_ok (G := G) co), trivial⟩ trivial (fun w4 z9 hw5 hf6 m7 a10 b11 u12 => ?_)
    rw [u12.1]
    obtain ⟨p13, e14, hG15⟩ := hx_fr (k := 2) (s := 32) q3 rfl
    obtain ⟨f16, g17, r18⟩ := hx_row hw hG15 (s := 32) (kd := 0) (n := 5721) rfl (by decide)
    have u19 := u12.2 _ _ _ _ _ _ rfl ⟨_, g2, e14⟩ g17 rfl
    refine hx_if_ne (l := 9) rfl rfl (fun h20 => ?_) (fun h20 => ?_)
    · -- 15
      refine ax_go 1 (y := (16, [some (.ref o), some (.int be), some (.int co)], [.ref o], w, 0, 0)) rfl trivial ?_
      refine hx_gf (l := 19) rfl rfl rfl g2 e14 ?_
      refine hx_k (l := 21) (m := 110) rfl rfl (by decide) (fun z21 h22 => ?_)
      refine hx_il (l := 22) rfl rfl g17 (by omega) (by omega) (fun z23 h24 => ?_)
      have b25 := ((hf.1.1 _ _ hG15 g17).1 z21.toInt.toNat (by omega)).2.2.2.2.1 (by omega)
      rw [← h24] at b25
      rw [show z21.toInt.toNat = 110 by omega] at h24
      replace h24 := congrArg Int32.toInt h24
      refine hx_k (l := 24) (m := 10) rfl rfl (by decide) (fun z26 h27 => ?_)
      refine hx_ic_ne (l := 27) rfl rfl (fun h28 => ?_) (fun h28 => ?_)
      · -- 34
        refine ax_go 3 (y := (37, [some (.ref o), some (.int be), some (.int co)], [.int co, .int be, .ref o], w, 0, 0)) rfl trivial ?_
        refine hx_p0 (l := 40) (as := [.ref o, .int be, .int co]) rfl rfl (hx_iv (j := 135) (n := 2) (o := o) (r := []) rfl rfl g2 rfl) (hp_X9_addsParish (fz := fz) hF (fun q hq => (by decide +kernel : ∀ q ∈ fb_X9_parish, q ∈ fb_hp_X9_addsParish) q (hfz q hq)) (d + 1)) hw hf ⟨(hx_tr (G := G) (s := 30) (b := 0) hG0 (by decide)), (ck_top_ok (G := G) be), (ck_top_ok (G := G) co), trivial⟩ (fun y0 y1 y2 pk1 f1 h1 h2 h3 => by cases h1; obtain ⟨fs1, g1, e1⟩ := h2; obtain rfl := hx_inj g2 g1; cases e14.symm.trans e1; obtain rfl := hx_injr g17 h3; exact ⟨by omega, by omega, by omega, by omega, by omega⟩) (fun w29 hw30 hf31 m32 u37 => ?_)
        have hs33 := ty_same_tr (ty_same_rf w) m32
        refine ax_go 2 (y := (42, [some (.ref o), some (.int be), some (.int co)], [.ref o, .ref o], w29, 0, 0)) rfl trivial ?_
        obtain ⟨fs38, g39, _, q40⟩ := hx_obj hw30 hG0 (s := 30) rfl (by decide)
        obtain ⟨p41, e42, hG43⟩ := hx_fr (k := 2) (s := 32) q40 rfl
        refine hx_gf (l := 45) rfl rfl rfl g39 e42 ?_
        refine hx_k (l := 47) (m := 110) rfl rfl (by decide) (fun z44 h45 => ?_)
        obtain ⟨f46, g47, r48⟩ := hx_row hw30 hG43 (s := 32) (kd := 0) (n := 5721) rfl (by decide)
        refine hx_il (l := 48) rfl rfl g47 (by omega) (by omega) (fun z49 h50 => ?_)
        have b51 := ((hf31.1.1 _ _ hG43 g47).1 z44.toInt.toNat (by omega)).2.2.2.2.1 (by omega)
        rw [← h50] at b51
        refine hx_k (l := 49) (m := 1) rfl rfl (by decide) (fun z52 h53 => ?_)
        refine hx_sub (l := 50) rfl rfl (fun z54 h55 => ?_)
        replace h55 := h55 (by omega) (by omega)
        refine hx_ci (l := 53) (as := [.ref o, .int z54]) rfl rfl (hx_iv (j := 126) (n := 1) (o := o) (r := []) rfl rfl g39 rfl) (h_X9_settled (fz := fz) hF (fun q hq => (by decide +kernel : ∀ q ∈ fb_X9_parish, q ∈ fb_X9_settled) q (hfz q hq)) (d + 0)) hw30 hf31 ⟨(hx_tr (G := G) (s := 30) (b := 0) hG0 (by decide)), (ck_top_ok (G := G) z54), trivial⟩ (fun w56 z61 hw57 hf58 m59 a62 b63 u64 => ?_)
        have hs60 := ty_same_tr hs33 m59
        exact ax_ret rfl rfl trivial ⟨some (.int z61), _, rfl, hw57, hf58, hs60, (ck_top_ok (G := G) z61), trivial⟩
      · -- 27
        refine ax_go 1 (y := (28, [some (.ref o), some (.int be), some (.int co)], [.ref o], w, 0, 0)) rfl trivial ?_
        refine hx_k (l := 30) (m := (-5)) rfl rfl (by decide) (fun z65 h66 => ?_)
        refine hx_ci (l := 33) (as := [.ref o, .int z65]) rfl rfl (hx_iv (j := 124) (n := 1) (o := o) (r := []) rfl rfl g2 rfl) (cc_X9_refuses_0 (fz := fz) hFF  (fun q hq => (by decide +kernel : ∀ q ∈ fb_X9_parish, q ∈ fr_X9_refuses_0) q (hfz q hq)) (d + 1)) hw hf ⟨(hx_tr (G := G) (s := 30) (b := 0) hG0 (by decide)), (hx_ti (G := G) (lo := (-6)) (hi := (-1)) (by omega) (by omega)), trivial⟩ (fun w67 z72 hw68 hf69 m70 a73 b74 u75 => ?_)
        have hs71 := ty_same_tr (ty_same_rf w) m70
        exact ax_ret rfl rfl trivial ⟨some (.int z72), _, rfl, hw68, hf69, hs71, (ck_top_ok (G := G) z72), trivial⟩
    · -- 9
      refine ax_go 1 (y := (10, [some (.ref o), some (.int be), some (.int co)], [.ref o], w, 0, 0)) rfl trivial ?_
      refine hx_k (l := 11) (m := (-1)) rfl rfl (by decide) (fun z76 h77 => ?_)
      refine hx_ci (l := 14) (as := [.ref o, .int z76]) rfl rfl (hx_iv (j := 124) (n := 1) (o := o) (r := []) rfl rfl g2 rfl) (cc_X9_refuses_0 (fz := fz) hFF  (fun q hq => (by decide +kernel : ∀ q ∈ fb_X9_parish, q ∈ fr_X9_refuses_0) q (hfz q hq)) (d + 1)) hw hf ⟨(hx_tr (G := G) (s := 30) (b := 0) hG0 (by decide)), (hx_ti (G := G) (lo := (-6)) (hi := (-1)) (by omega) (by omega)), trivial⟩ (fun w78 z83 hw79 hf80 m81 a84 b85 u86 => ?_)
      have hs82 := ty_same_tr (ty_same_rf w) m81
      exact ax_ret rfl rfl trivial ⟨some (.int z83), _, rfl, hw79, hf80, hs82, (ck_top_ok (G := G) z83), trivial⟩
def fb_X9_forget : List (Nat × Nat) := [(8, 3), (8, 5), (19, 999), (33, 999), (34, 999), (35, 999), (44, 999), (45, 999), (1, 0), (18, 999), (2, 11), (2, 14), (1, 15), (54, 11), (4, 2), (7, 9), (30, 13), (30, 34), (30, 2), (30, 22), (30, 23), (30, 24), (30, 25), (46, 999), (47, 999), (30, 35), (30, 36)]
theorem h_X9_forget {ro : ab_R} {G : Nat → Nat} {fz : List (Nat × Nat)} {F : ab_W → Prop} (hF : ∀ w w', ty_same G prM w w' → F w → F w') (hfz : ∀ q ∈ fz, q ∈ fb_X9_forget) (d : Nat) : ck_ct ro sp_ G (F9 G F) fz (ab_Ev ro ab_codes (d + 1)) 219 [(2, 30, 0)] (some (0, (-2147483648), 2147483647)) 0 0 := by
  have hFF := F9_same hF
  refine ck_hand (d := d + 0) (by decide) (fun as w hw hf has => ?_)
  match as, has with
  | [v0], ⟨h0, _⟩ =>
    obtain ⟨o, rfl, _, hG0⟩ := ty_refn h0 rfl rfl
    replace hG0 : G o = 30 := hG0
    refine ⟨rfl, ?_⟩
    change ab_wp ro (ab_Ev ro ab_codes d) 9 false (some .int) ab_k_X9_forget (fun o_1 => ∃ v w1, o_1 = (v, w1, 0, 0) ∧ ty_w sp_ G w1 ∧ (F9 G F) w1 ∧ ty_same G fz w w1 ∧ ck_res G (some (0, (-2147483648), 2147483647)) v ∧ ck_wit 0 0 [.ref o] v) (0, [some (.ref o), none], [], w, 0, 0)
    refine ax_go 1 (y := (1, [some (.ref o), none], [.ref o], w, 0, 0)) rfl trivial ?_
    obtain ⟨fs1, g2, _, q3⟩ := hx_obj hw hG0 (s := 30) rfl (by decide)
    obtain ⟨p4, e5, hG6⟩ := hx_fr (k := 2) (s := 32) q3 rfl
    refine hx_gf (l := 4) rfl rfl rfl g2 e5 ?_
    refine hx_k (l := 6) (m := 111) rfl rfl (by decide) (fun z7 h8 => ?_)
    obtain ⟨f9, g10, r11⟩ := hx_row hw hG6 (s := 32) (kd := 0) (n := 5721) rfl (by decide)
    refine hx_il (l := 7) rfl rfl g10 (by omega) (by omega) (fun z12 h13 => ?_)
    refine ax_go 2 (y := (9, [some (.ref o), some (.int z12)], [.ref o], w, 0, 0)) rfl trivial ?_
    refine hx_gf (l := 12) rfl rfl rfl g2 e5 ?_
    refine hx_k (l := 14) (m := 111) rfl rfl (by decide) (fun z14 h15 => ?_)
    refine hx_k (l := 15) (m := 0) rfl rfl (by decide) (fun z16 h17 => ?_)
    refine hx_is (s := 32) (l := 16) rfl rfl rfl hw hG6 g10 (by omega) (by omega) (hx_sg1 (fun _ _ _ => ⟨by omega, by omega⟩) (hx_sg1 (fun _ _ _ => ⟨by omega, by omega⟩) (hx_sg1 (fun _ _ _ => ⟨by omega, by omega⟩) (hx_sg1 (fun _ _ _ => ⟨by omega, by omega⟩) (hx_sg1 (fun _ _ _ => ⟨by omega, by omega⟩) (hx_sg1 (fun _ _ _ => ⟨by omega, by omega⟩) (hx_sg1 (fun _ _ _ => ⟨by omega, by omega⟩) (hx_sg1 (fun _ _ _ => ⟨by omega, by omega⟩) (hx_sg1 (fun _ _ _ => ⟨by omega, by omega⟩) hx_sg0))))))))) (fun w18 f19 g20 e21 o22 n23 hw24 n25 => ?_)
    have hs26 := ty_same_tr (ty_same_rf w) (n25 fz (hx_ok hfz (by decide)))
    have kp28 := hf.1.1 _ _ hG6 g10
    have kq29 : kb z14.toInt.toNat z16.toInt := ⟨⟨fun _ => by omega, fun _ _ _ => by omega, fun _ _ _ => by omega, fun _ => by omega⟩, fun _ _ => by omega, fun _ _ _ => by omega, fun _ => by omega, fun _ => by omega, fun _ => by omega, fun _ => by omega, fun _ => by omega, fun _ _ => by omega⟩
    have hf27 : F9 G F w18 := ⟨FM_k hf.1 hG6 g20 n23 (KP_up kp28 o22 (by rw [e21]; exact kq29) (by omega)), hF _ _ (n25 prM (by decide)) hf.2⟩
    refine ax_go 1 (y := (17, [some (.ref o), some (.int z12)], [.int z12], w18, 0, 0)) rfl trivial ?_
    exact ax_ret rfl rfl trivial ⟨some (.int z12), _, rfl, hw24, hf27, hs26, (ck_top_ok (G := G) z12), trivial⟩
def fb_X9_hear : List (Nat × Nat) := [(8, 3), (8, 5), (19, 999), (33, 999), (34, 999), (35, 999), (44, 999), (45, 999), (1, 0), (18, 999), (2, 11), (2, 14), (1, 15), (54, 11), (4, 2), (7, 9), (30, 13), (30, 34), (30, 2), (30, 22), (30, 23), (30, 24), (30, 25), (46, 999), (47, 999), (30, 35), (30, 36)]
theorem h_X9_hear {ro : ab_R} {G : Nat → Nat} {fz : List (Nat × Nat)} {F : ab_W → Prop} (hF : ∀ w w', ty_same G prM w w' → F w → F w') (hfz : ∀ q ∈ fz, q ∈ fb_X9_hear) (d : Nat) : ck_ct ro sp_ G (F9 G F) fz (ab_Ev ro ab_codes (d + 3)) 218 [(2, 30, 0), (0, (-2147483648), 2147483647), (0, (-2147483648), 2147483647)] (some (0, (-2147483648), 2147483647)) 0 0 := by
  have hFF := F9_same hF
  refine ck_hand (d := d + 2) (by decide) (fun as w hw hf has => ?_)
  match as, has with
  | [v0, v1, v2], ⟨h0, h1, h2, _⟩ =>
    obtain ⟨o, rfl, _, hG0⟩ := ty_refn h0 rfl rfl
    replace hG0 : G o = 30 := hG0
    obtain ⟨p, rfl, hl1, hh1⟩ := ty_int h1 rfl
    replace hl1 : ((-2147483648) : Int) ≤ p.toInt := hl1
    replace hh1 : p.toInt ≤ 2147483647 := hh1
    obtain ⟨ov, rfl, hl2, hh2⟩ := ty_int h2 rfl
    replace hl2 : ((-2147483648) : Int) ≤ ov.toInt := hl2
    replace hh2 : ov.toInt ≤ 2147483647 := hh2
    refine ⟨rfl, ?_⟩
    change ab_wp ro (ab_Ev ro ab_codes (d + 2)) 9 false (some .int) ab_k_X9_hear (fun o_1 => ∃ v w1, o_1 = (v, w1, 0, 0) ∧ ty_w sp_ G w1 ∧ (F9 G F) w1 ∧ ty_same G fz w w1 ∧ ck_res G (some (0, (-2147483648), 2147483647)) v ∧ ck_wit 0 0 [.ref o, .int p, .int ov] v) (0, [some (.ref o), some (.int p), some (.int ov), none], [], w, 0, 0)
    refine ax_go 1 (y := (1, [some (.ref o), some (.int p), some (.int ov), none], [.int ov], w, 0, 0)) rfl trivial ?_
    refine hx_k (l := 2) (m := 0) rfl rfl (by decide) (fun z1 h2 => ?_)
    refine hx_k (l := 4) (m := 98) rfl rfl (by decide) (fun z3 h4 => ?_)
    refine hx_pi (l := 7) (as := [.int ov, .int z1, .int z3]) rfl rfl rfl (hp_X9_lies (fz := fz) hFF (fun q hq => (by decide +kernel : ∀ q ∈ fb_X9_hear, q ∈ fb_hp_X9_lies) q (hfz q hq)) (d + 1)) hw hf ⟨(ck_top_ok (G := G) ov), (ck_top_ok (G := G) z1), (ck_top_ok (G := G) z3), trivial⟩ trivial (fun w5 z10 hw6 hf7 m8 a11 b12 u13 => ?_)
    rw [u13.1]
    have u14 := u13.2 _ _ _ _ rfl rfl
    refine hx_if_ne (l := 10) rfl rfl (fun h15 => ?_) (fun h15 => ?_)
    · -- 16
      refine ax_go 2 (y := (18, [some (.ref o), some (.int p), some (.int ov), none], [.int p, .ref o], w, 0, 0)) rfl trivial ?_
      obtain ⟨fs16, g17, _, q18⟩ := hx_obj hw hG0 (s := 30) rfl (by decide)
      refine hx_pi (l := 21) (as := [.ref o, .int p]) rfl rfl (hx_iv (j := 133) (n := 1) (o := o) (r := []) rfl rfl g17 rfl) (hp_X9_isParish (fz := fz) hF (fun q hq => (by decide +kernel : ∀ q ∈ fb_X9_hear, q ∈ fb_hp_X9_isParish) q (hfz q hq)) (d + 0)) hw hf ⟨(hx_tr (G := G) (s := 30) (b := 0) hG0 (by decide)), (ck_top_ok (G := G) p), trivial⟩ trivial (fun w19 z24 hw20 hf21 m22 a25 b26 u27 => ?_)
      rw [u27.1]
      obtain ⟨p28, e29, hG30⟩ := hx_fr (k := 2) (s := 32) q18 rfl
      obtain ⟨f31, g32, r33⟩ := hx_row hw hG30 (s := 32) (kd := 0) (n := 5721) rfl (by decide)
      have u34 := u27.2 _ _ _ _ _ rfl ⟨_, g17, e29⟩ g32 rfl
      have b35 := ((hf.1.1 _ _ hG30 g32).1 110 (by decide)).2.2.2.2.1 rfl
      refine hx_if_ne (l := 24) rfl rfl (fun h36 => ?_) (fun h36 => ?_)
      · -- 31
        refine ax_go 1 (y := (32, [some (.ref o), some (.int p), some (.int ov), none], [.ref o], w, 0, 0)) rfl trivial ?_
        refine hx_gf (l := 35) rfl rfl rfl g17 e29 ?_
        refine hx_k (l := 37) (m := 111) rfl rfl (by decide) (fun z37 h38 => ?_)
        refine hx_il (l := 38) rfl rfl g32 (by omega) (by omega) (fun z39 h40 => ?_)
        have b41 := ((hf.1.1 _ _ hG30 g32).1 z37.toInt.toNat (by omega)).2.2.2.2.2.1 (by omega)
        rw [← h40] at b41
        refine ax_go 2 (y := (40, [some (.ref o), some (.int p), some (.int ov), some (.int z39)], [.int z39], w, 0, 0)) rfl trivial ?_
        refine hx_k (l := 42) (m := 8) rfl rfl (by decide) (fun z42 h43 => ?_)
        refine hx_ic_ne (l := 45) rfl rfl (fun h44 => ?_) (fun h44 => ?_)
        · -- 52
          refine ax_go 1 (y := (53, [some (.ref o), some (.int p), some (.int ov), some (.int z39)], [.ref o], w, 0, 0)) rfl trivial ?_
          refine hx_gf (l := 56) rfl rfl rfl g17 e29 ?_
          refine hx_k (l := 58) (m := 91) rfl rfl (by decide) (fun z45 h46 => ?_)
          refine hx_k (l := 59) (m := 2) rfl rfl (by decide) (fun z47 h48 => ?_)
          refine ax_go 1 (y := (60, [some (.ref o), some (.int p), some (.int ov), some (.int z39)], [.int z39, .int z47, .int z45, .ref p28], w, 0, 0)) rfl trivial ?_
          refine hx_mul (l := 61) rfl rfl (fun z49 h50 => ?_)
          rw [h48] at h50
          replace h50 := h50 (by omega) (by omega)
          refine hx_add (l := 62) rfl rfl (fun z51 h52 => ?_)
          replace h52 := h52 (by omega) (by omega)
          refine ax_go 1 (y := (63, [some (.ref o), some (.int p), some (.int ov), some (.int z39)], [.int p, .int z51, .ref p28], w, 0, 0)) rfl trivial ?_
          refine hx_is (s := 32) (l := 64) rfl rfl rfl hw hG30 g32 (by omega) (by omega) (hx_sg1 (fun _ _ _ => ⟨by omega, by omega⟩) (hx_sg1 (fun _ _ _ => ⟨by omega, by omega⟩) (hx_sg1 (fun _ _ _ => ⟨by omega, by omega⟩) (hx_sg1 (fun _ _ _ => ⟨by omega, by omega⟩) (hx_sg1 (fun _ _ _ => ⟨by omega, by omega⟩) (hx_sg1 (fun _ _ _ => ⟨by omega, by omega⟩) (hx_sg1 (fun _ _ _ => ⟨by omega, by omega⟩) (hx_sg1 (fun _ _ _ => ⟨by omega, by omega⟩) (hx_sg1 (fun _ _ _ => ⟨by omega, by omega⟩) hx_sg0))))))))) (fun w53 f54 g55 e56 o57 n58 hw59 n60 => ?_)
          have hs61 := ty_same_tr (ty_same_rf w) (n60 fz (hx_ok hfz (by decide)))
          have kp63 := hf.1.1 _ _ hG30 g32
          have kq64 : kb z51.toInt.toNat p.toInt := ⟨⟨fun _ => by omega, fun _ _ _ => by omega, fun _ _ _ => by omega, fun _ => by omega⟩, fun _ _ => by omega, fun _ _ _ => by omega, fun _ => by omega, fun _ => by omega, fun _ => by omega, fun _ => by omega, fun _ => by omega, fun _ _ => by omega⟩
          have hf62 : F9 G F w53 := ⟨FM_k hf.1 hG30 g55 n58 (KP_up kp63 o57 (by rw [e56]; exact kq64) (by omega)), hF _ _ (n60 prM (by decide)) hf.2⟩
          refine ax_go 1 (y := (65, [some (.ref o), some (.int p), some (.int ov), some (.int z39)], [.ref o], w53, 0, 0)) rfl trivial ?_
          refine hx_gf (l := 68) rfl rfl rfl ((n58 _ (hx_ne hG0 hG30 (by decide))).trans g17) e29 ?_
          refine hx_k (l := 70) (m := 91) rfl rfl (by decide) (fun z65 h66 => ?_)
          refine hx_k (l := 71) (m := 2) rfl rfl (by decide) (fun z67 h68 => ?_)
          refine ax_go 1 (y := (72, [some (.ref o), some (.int p), some (.int ov), some (.int z39)], [.int z39, .int z67, .int z65, .ref p28], w53, 0, 0)) rfl trivial ?_
          refine hx_mul (l := 73) rfl rfl (fun z69 h70 => ?_)
          rw [h68] at h70
          replace h70 := h70 (by omega) (by omega)
          refine hx_add (l := 74) rfl rfl (fun z71 h72 => ?_)
          replace h72 := h72 (by omega) (by omega)
          refine hx_k (l := 75) (m := 1) rfl rfl (by decide) (fun z73 h74 => ?_)
          refine hx_add (l := 76) rfl rfl (fun z75 h76 => ?_)
          replace h76 := h76 (by omega) (by omega)
          refine ax_go 1 (y := (77, [some (.ref o), some (.int p), some (.int ov), some (.int z39)], [.int ov, .int z75, .ref p28], w53, 0, 0)) rfl trivial ?_
          refine hx_is (s := 32) (l := 78) rfl rfl rfl hw59 hG30 g55 (by omega) (by omega) (hx_sg1 (fun _ _ _ => ⟨by omega, by omega⟩) (hx_sg1 (fun _ _ _ => ⟨by omega, by omega⟩) (hx_sg1 (fun _ _ _ => ⟨by omega, by omega⟩) (hx_sg1 (fun _ _ _ => ⟨by omega, by omega⟩) (hx_sg1 (fun _ _ _ => ⟨by omega, by omega⟩) (hx_sg1 (fun _ _ _ => ⟨by omega, by omega⟩) (hx_sg1 (fun _ _ _ => ⟨by omega, by omega⟩) (hx_sg1 (fun _ _ _ => ⟨by omega, by omega⟩) (hx_sg1 (fun _ _ _ => ⟨by omega, by omega⟩) hx_sg0))))))))) (fun w77 f78 g79 e80 o81 n82 hw83 n84 => ?_)
          have hs85 := ty_same_tr hs61 (n84 fz (hx_ok hfz (by decide)))
          have kp87 := hf62.1.1 _ _ hG30 g55
          have kq88 : kb z75.toInt.toNat ov.toInt := ⟨⟨fun _ => by omega, fun _ _ _ => by omega, fun _ _ _ => by omega, fun _ => by omega⟩, fun _ _ => by omega, fun _ _ _ => by omega, fun _ => by omega, fun _ => by omega, fun _ => by omega, fun _ => by omega, fun _ => by omega, fun _ _ => by omega⟩
          have hf86 : F9 G F w77 := ⟨FM_k hf62.1 hG30 g79 n82 (KP_up kp87 o81 (by rw [e80]; exact kq88) (by omega)), hF _ _ (n84 prM (by decide)) hf62.2⟩
          refine ax_go 1 (y := (79, [some (.ref o), some (.int p), some (.int ov), some (.int z39)], [.ref o], w77, 0, 0)) rfl trivial ?_
          refine hx_gf (l := 82) rfl rfl rfl ((n82 _ (hx_ne hG0 hG30 (by decide))).trans ((n58 _ (hx_ne hG0 hG30 (by decide))).trans g17)) e29 ?_
          refine hx_k (l := 84) (m := 111) rfl rfl (by decide) (fun z89 h90 => ?_)
          refine ax_go 1 (y := (85, [some (.ref o), some (.int p), some (.int ov), some (.int z39)], [.int z89, .ref p28, .int z89, .ref p28], w77, 0, 0)) rfl trivial ?_
          have r91 := hx_rq hw83 g79 hG30 (s := 32) rfl
          refine hx_il (l := 86) rfl rfl g79 (by omega) (by omega) (fun z92 h93 => ?_)
          have b94 := ((hf86.1.1 _ _ hG30 g79).1 z89.toInt.toNat (by omega)).2.2.2.2.2.1 (by omega)
          rw [← h93] at b94
          have b95 : z92.toInt = z39.toInt := by rw [h93, o81 z89.toInt.toNat (by omega), o57 z89.toInt.toNat (by omega), h40, show z89.toInt.toNat = z37.toInt.toNat by omega]
          refine hx_k (l := 87) (m := 1) rfl rfl (by decide) (fun z96 h97 => ?_)
          refine hx_add (l := 88) rfl rfl (fun z98 h99 => ?_)
          replace h99 := h99 (by omega) (by omega)
          refine hx_is (s := 32) (l := 89) rfl rfl rfl hw83 hG30 g79 (by omega) (by omega) (hx_sg1 (fun _ _ _ => ⟨by omega, by omega⟩) (hx_sg1 (fun _ _ _ => ⟨by omega, by omega⟩) (hx_sg1 (fun _ _ _ => ⟨by omega, by omega⟩) (hx_sg1 (fun _ _ _ => ⟨by omega, by omega⟩) (hx_sg1 (fun _ _ _ => ⟨by omega, by omega⟩) (hx_sg1 (fun _ _ _ => ⟨by omega, by omega⟩) (hx_sg1 (fun _ _ _ => ⟨by omega, by omega⟩) (hx_sg1 (fun _ _ _ => ⟨by omega, by omega⟩) (hx_sg1 (fun _ _ _ => ⟨by omega, by omega⟩) hx_sg0))))))))) (fun w100 f101 g102 e103 o104 n105 hw106 n107 => ?_)
          have hs108 := ty_same_tr hs85 (n107 fz (hx_ok hfz (by decide)))
          have kp110 := hf86.1.1 _ _ hG30 g79
          have kq111 : kb z89.toInt.toNat z98.toInt := ⟨⟨fun _ => by omega, fun _ _ _ => by omega, fun _ _ _ => by omega, fun _ => by omega⟩, fun _ _ => by omega, fun _ _ _ => by omega, fun _ => by omega, fun _ => by omega, fun _ => by omega, fun _ => by omega, fun _ => by omega, fun _ _ => by omega⟩
          have hf109 : F9 G F w100 := ⟨FM_k hf86.1 hG30 g102 n105 (KP_up kp110 o104 (by rw [e103]; exact kq111) (by omega)), hF _ _ (n107 prM (by decide)) hf86.2⟩
          refine ax_go 2 (y := (91, [some (.ref o), some (.int p), some (.int ov), some (.int z39)], [.int z39, .ref o], w100, 0, 0)) rfl trivial ?_
          refine hx_k (l := 92) (m := 1) rfl rfl (by decide) (fun z112 h113 => ?_)
          refine hx_add (l := 93) rfl rfl (fun z114 h115 => ?_)
          replace h115 := h115 (by omega) (by omega)
          refine hx_ci (l := 96) (as := [.ref o, .int z114]) rfl rfl (hx_iv (j := 125) (n := 1) (o := o) (r := []) rfl rfl ((n105 _ (hx_ne hG0 hG30 (by decide))).trans ((n82 _ (hx_ne hG0 hG30 (by decide))).trans ((n58 _ (hx_ne hG0 hG30 (by decide))).trans g17))) rfl) (cc_X9_good_0 (fz := fz) hFF  (fun q hq => (by decide +kernel : ∀ q ∈ fb_X9_hear, q ∈ fr_X9_good_0) q (hfz q hq)) (d + 1)) hw106 hf109 ⟨(hx_tr (G := G) (s := 30) (b := 0) hG0 (by decide)), (ck_top_ok (G := G) z114), trivial⟩ (fun w116 z121 hw117 hf118 m119 a122 b123 u124 => ?_)
          have hs120 := ty_same_tr hs108 m119
          exact ax_ret rfl rfl trivial ⟨some (.int z121), _, rfl, hw117, hf118, hs120, (ck_top_ok (G := G) z121), trivial⟩
        · -- 45
          refine ax_go 1 (y := (46, [some (.ref o), some (.int p), some (.int ov), some (.int z39)], [.ref o], w, 0, 0)) rfl trivial ?_
          refine hx_k (l := 48) (m := (-5)) rfl rfl (by decide) (fun z125 h126 => ?_)
          refine hx_ci (l := 51) (as := [.ref o, .int z125]) rfl rfl (hx_iv (j := 124) (n := 1) (o := o) (r := []) rfl rfl g17 rfl) (cc_X9_refuses_0 (fz := fz) hFF  (fun q hq => (by decide +kernel : ∀ q ∈ fb_X9_hear, q ∈ fr_X9_refuses_0) q (hfz q hq)) (d + 1)) hw hf ⟨(hx_tr (G := G) (s := 30) (b := 0) hG0 (by decide)), (hx_ti (G := G) (lo := (-6)) (hi := (-1)) (by omega) (by omega)), trivial⟩ (fun w127 z132 hw128 hf129 m130 a133 b134 u135 => ?_)
          have hs131 := ty_same_tr (ty_same_rf w) m130
          exact ax_ret rfl rfl trivial ⟨some (.int z132), _, rfl, hw128, hf129, hs131, (ck_top_ok (G := G) z132), trivial⟩
      · -- 24
        refine ax_go 1 (y := (25, [some (.ref o), some (.int p), some (.int ov), none], [.ref o], w, 0, 0)) rfl trivial ?_
        refine hx_k (l := 27) (m := (-2)) rfl rfl (by decide) (fun z136 h137 => ?_)
        refine hx_ci (l := 30) (as := [.ref o, .int z136]) rfl rfl (hx_iv (j := 124) (n := 1) (o := o) (r := []) rfl rfl g17 rfl) (cc_X9_refuses_0 (fz := fz) hFF  (fun q hq => (by decide +kernel : ∀ q ∈ fb_X9_hear, q ∈ fr_X9_refuses_0) q (hfz q hq)) (d + 1)) hw hf ⟨(hx_tr (G := G) (s := 30) (b := 0) hG0 (by decide)), (hx_ti (G := G) (lo := (-6)) (hi := (-1)) (by omega) (by omega)), trivial⟩ (fun w138 z143 hw139 hf140 m141 a144 b145 u146 => ?_)
        have hs142 := ty_same_tr (ty_same_rf w) m141
        exact ax_ret rfl rfl trivial ⟨some (.int z143), _, rfl, hw139, hf140, hs142, (ck_top_ok (G := G) z143), trivial⟩
    · -- 10
      refine ax_go 1 (y := (11, [some (.ref o), some (.int p), some (.int ov), none], [.ref o], w, 0, 0)) rfl trivial ?_
      refine hx_k (l := 12) (m := (-1)) rfl rfl (by decide) (fun z147 h148 => ?_)
      obtain ⟨fs149, g150, _, q151⟩ := hx_obj hw hG0 (s := 30) rfl (by decide)
      refine hx_ci (l := 15) (as := [.ref o, .int z147]) rfl rfl (hx_iv (j := 124) (n := 1) (o := o) (r := []) rfl rfl g150 rfl) (cc_X9_refuses_0 (fz := fz) hFF  (fun q hq => (by decide +kernel : ∀ q ∈ fb_X9_hear, q ∈ fr_X9_refuses_0) q (hfz q hq)) (d + 1)) hw hf ⟨(hx_tr (G := G) (s := 30) (b := 0) hG0 (by decide)), (hx_ti (G := G) (lo := (-6)) (hi := (-1)) (by omega) (by omega)), trivial⟩ (fun w152 z157 hw153 hf154 m155 a158 b159 u160 => ?_)
      have hs156 := ty_same_tr (ty_same_rf w) m155
      exact ax_ret rfl rfl trivial ⟨some (.int z157), _, rfl, hw153, hf154, hs156, (ck_top_ok (G := G) z157), trivial⟩
def fb_X9_force : List (Nat × Nat) := [(8, 3), (8, 5), (19, 999), (33, 999), (34, 999), (35, 999), (44, 999), (45, 999), (1, 0), (18, 999), (2, 11), (2, 14), (1, 15), (54, 11), (4, 2), (7, 9), (30, 13), (30, 34), (30, 2), (30, 22), (30, 23), (30, 24), (30, 25), (46, 999), (47, 999), (30, 35), (30, 36)]
theorem h_X9_force {ro : ab_R} {G : Nat → Nat} {fz : List (Nat × Nat)} {F : ab_W → Prop} (hF : ∀ w w', ty_same G prM w w' → F w → F w') (hfz : ∀ q ∈ fz, q ∈ fb_X9_force) (d : Nat) : ck_ct ro sp_ G (F9 G F) fz (ab_Ev ro ab_codes (d + 2)) 171 [(2, 30, 0), (0, (-2147483648), 2147483647)] (some (0, (-2147483648), 2147483647)) 0 0 := by
  have hFF := F9_same hF
  refine ck_hand (d := d + 1) (by decide) (fun as w hw hf has => ?_)
  match as, has with
  | [v0, v1], ⟨h0, h1, _⟩ =>
    obtain ⟨o, rfl, _, hG0⟩ := ty_refn h0 rfl rfl
    replace hG0 : G o = 30 := hG0
    obtain ⟨lw, rfl, hl1, hh1⟩ := ty_int h1 rfl
    replace hl1 : ((-2147483648) : Int) ≤ lw.toInt := hl1
    replace hh1 : lw.toInt ≤ 2147483647 := hh1
    refine ⟨rfl, ?_⟩
    change ab_wp ro (ab_Ev ro ab_codes (d + 1)) 9 false (some .int) ab_k_X9_force (fun o_1 => ∃ v w1, o_1 = (v, w1, 0, 0) ∧ ty_w sp_ G w1 ∧ (F9 G F) w1 ∧ ty_same G fz w w1 ∧ ck_res G (some (0, (-2147483648), 2147483647)) v ∧ ck_wit 0 0 [.ref o, .int lw] v) (0, [some (.ref o), some (.int lw), none], [], w, 0, 0)
    refine ax_go 1 (y := (1, [some (.ref o), some (.int lw), none], [.int lw], w, 0, 0)) rfl trivial ?_
    refine hx_k (l := 2) (m := (-1)) rfl rfl (by decide) (fun z1 h2 => ?_)
    refine ax_go 1 (y := (3, [some (.ref o), some (.int lw), none], [.ref o, .int z1, .int lw], w, 0, 0)) rfl trivial ?_
    obtain ⟨fs3, g4, _, q5⟩ := hx_obj hw hG0 (s := 30) rfl (by decide)
    obtain ⟨p6, e7, hG8⟩ := hx_fr (k := 2) (s := 32) q5 rfl
    refine hx_gf (l := 6) rfl rfl rfl g4 e7 ?_
    refine hx_k (l := 8) (m := 112) rfl rfl (by decide) (fun z9 h10 => ?_)
    obtain ⟨f11, g12, r13⟩ := hx_row hw hG8 (s := 32) (kd := 0) (n := 5721) rfl (by decide)
    refine hx_il (l := 9) rfl rfl g12 (by omega) (by omega) (fun z14 h15 => ?_)
    have b16 := ((hf.1.1 _ _ hG8 g12).1 z9.toInt.toNat (by omega)).2.2.2.2.2.2.1 (by omega)
    rw [← h15] at b16
    rw [show z9.toInt.toNat = 112 by omega] at h15
    replace h15 := congrArg Int32.toInt h15
    refine hx_k (l := 10) (m := 1) rfl rfl (by decide) (fun z17 h18 => ?_)
    refine hx_sub (l := 11) rfl rfl (fun z19 h20 => ?_)
    replace h20 := h20 (by omega) (by omega)
    refine hx_pi (l := 14) (as := [.int lw, .int z1, .int z19]) rfl rfl rfl (hp_X9_lies (fz := fz) hFF (fun q hq => (by decide +kernel : ∀ q ∈ fb_X9_force, q ∈ fb_hp_X9_lies) q (hfz q hq)) (d + 0)) hw hf ⟨(ck_top_ok (G := G) lw), (ck_top_ok (G := G) z1), (ck_top_ok (G := G) z19), trivial⟩ trivial (fun w21 z26 hw22 hf23 m24 a27 b28 u29 => ?_)
    rw [u29.1]
    have u30 := u29.2 _ _ _ _ rfl rfl
    refine hx_if_ne (l := 17) rfl rfl (fun h31 => ?_) (fun h31 => ?_)
    · -- 24
      refine ax_go 1 (y := (25, [some (.ref o), some (.int lw), none], [.ref o], w, 0, 0)) rfl trivial ?_
      refine hx_gf (l := 28) rfl rfl rfl g4 e7 ?_
      refine hx_k (l := 30) (m := 113) rfl rfl (by decide) (fun z32 h33 => ?_)
      refine hx_il (l := 31) rfl rfl g12 (by omega) (by omega) (fun z34 h35 => ?_)
      refine ax_go 2 (y := (33, [some (.ref o), some (.int lw), some (.int z34)], [.ref o], w, 0, 0)) rfl trivial ?_
      refine hx_gf (l := 36) rfl rfl rfl g4 e7 ?_
      refine hx_k (l := 38) (m := 113) rfl rfl (by decide) (fun z36 h37 => ?_)
      refine ax_go 1 (y := (39, [some (.ref o), some (.int lw), some (.int z34)], [.int lw, .int z36, .ref p6], w, 0, 0)) rfl trivial ?_
      refine hx_is (s := 32) (l := 40) rfl rfl rfl hw hG8 g12 (by omega) (by omega) (hx_sg1 (fun _ _ _ => ⟨by omega, by omega⟩) (hx_sg1 (fun _ _ _ => ⟨by omega, by omega⟩) (hx_sg1 (fun _ _ _ => ⟨by omega, by omega⟩) (hx_sg1 (fun _ _ _ => ⟨by omega, by omega⟩) (hx_sg1 (fun _ _ _ => ⟨by omega, by omega⟩) (hx_sg1 (fun _ _ _ => ⟨by omega, by omega⟩) (hx_sg1 (fun _ _ _ => ⟨by omega, by omega⟩) (hx_sg1 (fun _ _ _ => ⟨by omega, by omega⟩) (hx_sg1 (fun _ _ _ => ⟨by omega, by omega⟩) hx_sg0))))))))) (fun w38 f39 g40 e41 o42 n43 hw44 n45 => ?_)
      have hs46 := ty_same_tr (ty_same_rf w) (n45 fz (hx_ok hfz (by decide)))
      have kp48 := hf.1.1 _ _ hG8 g12
      have i113 : z36.toInt.toNat = 113 := by omega
      have hf47 : F9 G F w38 := ⟨FM_k hf.1 hG8 g40 n43 (KP_113 kp48 (fun j hj => o42 j (by omega)) (by rw [← i113, e41]; omega) (by rw [← i113, e41]; omega)), hF _ _ (n45 prM (by decide)) hf.2⟩
      refine ax_go 2 (y := (42, [some (.ref o), some (.int lw), some (.int z34)], [.int z34, .ref o], w38, 0, 0)) rfl trivial ?_
      refine hx_ci (l := 45) (as := [.ref o, .int z34]) rfl rfl (hx_iv (j := 125) (n := 1) (o := o) (r := []) rfl rfl ((n43 _ (hx_ne hG0 hG8 (by decide))).trans g4) rfl) (cc_X9_good_0 (fz := fz) hFF  (fun q hq => (by decide +kernel : ∀ q ∈ fb_X9_force, q ∈ fr_X9_good_0) q (hfz q hq)) (d + 0)) hw44 hf47 ⟨(hx_tr (G := G) (s := 30) (b := 0) hG0 (by decide)), (ck_top_ok (G := G) z34), trivial⟩ (fun w50 z55 hw51 hf52 m53 a56 b57 u58 => ?_)
      have hs54 := ty_same_tr hs46 m53
      exact ax_ret rfl rfl trivial ⟨some (.int z55), _, rfl, hw51, hf52, hs54, (ck_top_ok (G := G) z55), trivial⟩
    · -- 17
      refine ax_go 1 (y := (18, [some (.ref o), some (.int lw), none], [.ref o], w, 0, 0)) rfl trivial ?_
      refine hx_k (l := 20) (m := (-2)) rfl rfl (by decide) (fun z59 h60 => ?_)
      refine hx_ci (l := 23) (as := [.ref o, .int z59]) rfl rfl (hx_iv (j := 124) (n := 1) (o := o) (r := []) rfl rfl g4 rfl) (cc_X9_refuses_0 (fz := fz) hFF  (fun q hq => (by decide +kernel : ∀ q ∈ fb_X9_force, q ∈ fr_X9_refuses_0) q (hfz q hq)) (d + 0)) hw hf ⟨(hx_tr (G := G) (s := 30) (b := 0) hG0 (by decide)), (hx_ti (G := G) (lo := (-6)) (hi := (-1)) (by omega) (by omega)), trivial⟩ (fun w61 z66 hw62 hf63 m64 a67 b68 u69 => ?_)
      have hs65 := ty_same_tr (ty_same_rf w) m64
      exact ax_ret rfl rfl trivial ⟨some (.int z66), _, rfl, hw62, hf63, hs65, (ck_top_ok (G := G) z66), trivial⟩
def fb_X9_feed : List (Nat × Nat) := [(8, 3), (8, 5), (19, 999), (32, 999), (33, 999), (34, 999), (35, 999), (44, 999), (45, 999), (1, 0), (18, 999), (2, 11), (2, 14), (1, 15), (54, 11), (4, 2), (7, 9), (30, 34), (30, 2), (30, 22), (30, 23), (30, 24), (30, 25), (46, 999), (47, 999), (30, 35), (30, 36)]
theorem h_X9_feed {ro : ab_R} {G : Nat → Nat} {fz : List (Nat × Nat)} {F : ab_W → Prop} (hF : ∀ w w', ty_same G prM w w' → F w → F w') (hfz : ∀ q ∈ fz, q ∈ fb_X9_feed) (d : Nat) : ck_ct ro sp_ G (F9 G F) fz (ab_Ev ro ab_codes (d + 1)) 144 [(2, 30, 0), (0, (-2147483648), 2147483647), (0, (-2147483648), 2147483647), (0, (-2147483648), 2147483647), (0, (-2147483648), 2147483647), (0, (-2147483648), 2147483647)] (some (0, (-1), 400)) 0 0 := by
  have hFF := F9_same hF
  refine ck_hand (d := d + 0) (by decide) (fun as w hw hf has => ?_)
  match as, has with
  | [v0, v1, v2, v3, v4, v5], ⟨h0, h1, h2, h3, h4, h5, _⟩ =>
    obtain ⟨o, rfl, _, hG0⟩ := ty_refn h0 rfl rfl
    replace hG0 : G o = 30 := hG0
    obtain ⟨a, rfl, hl1, hh1⟩ := ty_int h1 rfl
    replace hl1 : ((-2147483648) : Int) ≤ a.toInt := hl1
    replace hh1 : a.toInt ≤ 2147483647 := hh1
    obtain ⟨b, rfl, hl2, hh2⟩ := ty_int h2 rfl
    replace hl2 : ((-2147483648) : Int) ≤ b.toInt := hl2
    replace hh2 : b.toInt ≤ 2147483647 := hh2
    obtain ⟨c, rfl, hl3, hh3⟩ := ty_int h3 rfl
    replace hl3 : ((-2147483648) : Int) ≤ c.toInt := hl3
    replace hh3 : c.toInt ≤ 2147483647 := hh3
    obtain ⟨e1, rfl, hl4, hh4⟩ := ty_int h4 rfl
    replace hl4 : ((-2147483648) : Int) ≤ e1.toInt := hl4
    replace hh4 : e1.toInt ≤ 2147483647 := hh4
    obtain ⟨e2, rfl, hl5, hh5⟩ := ty_int h5 rfl
    replace hl5 : ((-2147483648) : Int) ≤ e2.toInt := hl5
    replace hh5 : e2.toInt ≤ 2147483647 := hh5
    refine ⟨rfl, ?_⟩
    have ct55 : ∀ (n : Nat) (w1 : ab_W) (k : Int32) (tp : Int32), ty_w sp_ G w1 → (F9 G F) w1 → ty_same G fz w w1 → (hx_has w1 o 9 13 (.int tp)) → (0 ≤ k.toInt) → (k.toInt ≤ 20) → (tp.toInt ≤ 380) → (21 - k.toInt).toNat < n → ab_wp ro (ab_Ev ro ab_codes d) 9 false (some .int) ab_k_X9_feed (fun o_1 => ∃ v w1, o_1 = (v, w1, 0, 0) ∧ ty_w sp_ G w1 ∧ (F9 G F) w1 ∧ ty_same G fz w w1 ∧ ck_res G (some (0, (-1), 400)) v ∧ ck_wit 0 0 [.ref o, .int a, .int b, .int c, .int e1, .int e2] v) (55, [some (.ref o), some (.int a), some (.int b), some (.int c), some (.int e1), some (.int e2), some (.int k)], [], w1, 0, 0) := by
      intro n
      induction n with
      | zero => intro w1 k tp hw6 hf7 hs8 hh2 i3 i4 i5 hm; exact absurd hm (Nat.not_lt_zero _)
      | succ n ih55 =>
        intro w1 k tp hw6 hf7 hs8 hh2 i3 i4 i5 hm55
        obtain ⟨fs9, g10, e11⟩ := hh2
        have q12 := hx_oq hw6 g10 hG0 (s := 30) rfl
        obtain ⟨x13, e14, a15, b16⟩ := hx_fi (k := 13) (lo := 0) (hi := 400) q12 rfl
        obtain rfl : tp = x13 := hx_inji e11 e14
        refine ax_go 1 (y := (57, [some (.ref o), some (.int a), some (.int b), some (.int c), some (.int e1), some (.int e2), some (.int k)], [.int k], w1, 0, 0)) rfl trivial ?_
        refine hx_k (l := 59) (m := 20) rfl rfl (by decide) (fun z17 h18 => ?_)
        refine hx_ic_ge (l := 62) rfl rfl (fun h19 => ?_) (fun h19 => ?_)
        · -- 101
          refine ax_go 2 (y := (103, [some (.ref o), some (.int a), some (.int b), some (.int c), some (.int e1), some (.int e2), some (.int k)], [.ref o, .ref o], w1, 0, 0)) rfl trivial ?_
          refine hx_gf (l := 106) rfl rfl rfl g10 e11 ?_
          refine hx_k (l := 108) (m := 20) rfl rfl (by decide) (fun z20 h21 => ?_)
          refine hx_add (l := 109) rfl rfl (fun z22 h23 => ?_)
          replace h23 := h23 (by omega) (by omega)
          refine hx_pf (q := (0, 0, 0, 0, 0, 400)) (s := 30) (l := 112) (v := .int z22) rfl rfl rfl (by decide) rfl rfl rfl hw6 hG0 g10 trivial (hx_ti (G := G) (lo := 0) (hi := 400) (by omega) (by omega)) (fun w24 fs25 g26 e27 o28 n29 hw30 n31 => ?_)
          have hs32 := ty_same_tr hs8 (n31 fz (hx_ok hfz (by decide)))
          have hf33 := hFF _ _ (n31 pr_ (by decide)) hf7
          refine ax_go 1 (y := (113, [some (.ref o), some (.int a), some (.int b), some (.int c), some (.int e1), some (.int e2), some (.int k)], [.ref o], w24, 0, 0)) rfl trivial ?_
          refine hx_gf (l := 116) rfl rfl rfl g26 e27 ?_
          exact ax_ret rfl rfl trivial ⟨some (.int z22), _, rfl, hw30, hf33, hs32, (hx_ti (G := G) (lo := (-1)) (hi := 400) (by omega) (by omega)), trivial⟩
        · -- 62
          refine ax_go 1 (y := (63, [some (.ref o), some (.int a), some (.int b), some (.int c), some (.int e1), some (.int e2), some (.int k)], [.ref o], w1, 0, 0)) rfl trivial ?_
          obtain ⟨p34, e35, hG36⟩ := hx_fr (k := 11) (s := 37) q12 rfl
          refine hx_gf (l := 66) rfl rfl rfl g10 e35 ?_
          refine ax_go 1 (y := (67, [some (.ref o), some (.int a), some (.int b), some (.int c), some (.int e1), some (.int e2), some (.int k)], [.ref o, .ref p34], w1, 0, 0)) rfl trivial ?_
          refine hx_gf (l := 70) rfl rfl rfl g10 e11 ?_
          refine ax_go 1 (y := (72, [some (.ref o), some (.int a), some (.int b), some (.int c), some (.int e1), some (.int e2), some (.int k)], [.int k, .int tp, .ref p34], w1, 0, 0)) rfl trivial ?_
          refine hx_add (l := 73) rfl rfl (fun z37 h38 => ?_)
          replace h38 := h38 (by omega) (by omega)
          refine ax_go 1 (y := (74, [some (.ref o), some (.int a), some (.int b), some (.int c), some (.int e1), some (.int e2), some (.int k)], [.ref o, .int z37, .ref p34], w1, 0, 0)) rfl trivial ?_
          obtain ⟨p39, e40, hG41⟩ := hx_fr (k := 12) (s := 38) q12 rfl
          refine hx_gf (l := 77) rfl rfl rfl g10 e40 ?_
          refine ax_go 1 (y := (79, [some (.ref o), some (.int a), some (.int b), some (.int c), some (.int e1), some (.int e2), some (.int k)], [.int k, .ref p39, .int z37, .ref p34], w1, 0, 0)) rfl trivial ?_
          refine hx_k (l := 80) (m := 4) rfl rfl (by decide) (fun z42 h43 => ?_)
          refine hx_div (l := 81) rfl rfl (by omega) (by omega) (fun z44 h45 => ?_)
          rw [h43] at h45
          obtain ⟨f46, g47, r48⟩ := hx_row hw6 hG41 (s := 38) (kd := 0) (n := 5) rfl (by decide)
          refine hx_il (l := 82) rfl rfl g47 (by omega) (by omega) (fun z49 h50 => ?_)
          refine hx_k (l := 84) (m := 24) rfl rfl (by decide) (fun z51 h52 => ?_)
          refine hx_k (l := 86) (m := 8) rfl rfl (by decide) (fun z53 h54 => ?_)
          refine ax_go 1 (y := (88, [some (.ref o), some (.int a), some (.int b), some (.int c), some (.int e1), some (.int e2), some (.int k)], [.int k, .int z53, .int z51, .int z49, .int z37, .ref p34], w1, 0, 0)) rfl trivial ?_
          refine hx_k (l := 89) (m := 4) rfl rfl (by decide) (fun z55 h56 => ?_)
          refine hx_rem (l := 90) rfl rfl (by omega) (by omega) (fun z57 a58 b59 c60 d61 => ?_)
          refine hx_mul (l := 91) rfl rfl (fun z62 h63 => ?_)
          rw [h54] at h63
          replace h63 := h63 (by omega) (by omega)
          refine hx_sub (l := 92) rfl rfl (fun z64 h65 => ?_)
          replace h65 := h65 (by omega) (by omega)
          refine hx_any (l := 93) rfl rfl (fun z66 => ?_)
          refine hx_any (l := 94) rfl rfl (fun z67 => ?_)
          obtain ⟨f68, g69, r70⟩ := hx_row hw6 hG36 (s := 37) (kd := 1) (n := 400) rfl (by decide)
          refine hx_bs (s := 37) (l := 95) rfl rfl (by decide) rfl hw6 hG36 g69 (by omega) (by omega) (fun w71 f72 g73 e74 o75 n76 hw77 n78 => ?_)
          have hs79 := ty_same_tr hs8 (n78 fz (hx_ok hfz (by decide)))
          have hf80 := hFF _ _ (n78 pr_ (by decide)) hf7
          refine hx_iinc (x := k) (n := 1) (l := 98) rfl rfl rfl (Nat.le_of_ble_eq_true rfl) (by omega) (by omega) (by decide) (fun z81 h82 => ?_)
          change ab_wp ro (ab_Ev ro ab_codes d) 9 false (some .int) ab_k_X9_feed (fun o_1 => ∃ v w1, o_1 = (v, w1, 0, 0) ∧ ty_w sp_ G w1 ∧ (F9 G F) w1 ∧ ty_same G fz w w1 ∧ ck_res G (some (0, (-1), 400)) v ∧ ck_wit 0 0 [.ref o, .int a, .int b, .int c, .int e1, .int e2] v) (98, [some (.ref o), some (.int a), some (.int b), some (.int c), some (.int e1), some (.int e2), some (.int z81)], [], w71, 0, 0)
          refine ax_go 1 (y := (55, [some (.ref o), some (.int a), some (.int b), some (.int c), some (.int e1), some (.int e2), some (.int z81)], [], w71, 0, 0)) rfl trivial ?_
          exact ih55 w71 z81 tp hw77 hf80 hs79 ⟨_, ((n76 _ (hx_ne hG0 hG36 (by decide))).trans g10), e11⟩ (by omega) (by omega) (by omega) (by omega)
    change ab_wp ro (ab_Ev ro ab_codes d) 9 false (some .int) ab_k_X9_feed (fun o_1 => ∃ v w1, o_1 = (v, w1, 0, 0) ∧ ty_w sp_ G w1 ∧ (F9 G F) w1 ∧ ty_same G fz w w1 ∧ ck_res G (some (0, (-1), 400)) v ∧ ck_wit 0 0 [.ref o, .int a, .int b, .int c, .int e1, .int e2] v) (0, [some (.ref o), some (.int a), some (.int b), some (.int c), some (.int e1), some (.int e2), none], [], w, 0, 0)
    refine ax_go 1 (y := (1, [some (.ref o), some (.int a), some (.int b), some (.int c), some (.int e1), some (.int e2), none], [.ref o], w, 0, 0)) rfl trivial ?_
    obtain ⟨fs83, g84, _, q85⟩ := hx_obj hw hG0 (s := 30) rfl (by decide)
    obtain ⟨x86, e87, a88, b89⟩ := hx_fi (k := 13) (lo := 0) (hi := 400) q85 rfl
    refine hx_gf (l := 4) rfl rfl rfl g84 e87 ?_
    refine hx_k (l := 6) (m := 20) rfl rfl (by decide) (fun z90 h91 => ?_)
    refine hx_add (l := 7) rfl rfl (fun z92 h93 => ?_)
    replace h93 := h93 (by omega) (by omega)
    refine hx_k (l := 10) (m := 400) rfl rfl (by decide) (fun z94 h95 => ?_)
    refine hx_ic_le (l := 13) rfl rfl (fun h96 => ?_) (fun h96 => ?_)
    · -- 15
      refine ax_go 1 (y := (16, [some (.ref o), some (.int a), some (.int b), some (.int c), some (.int e1), some (.int e2), none], [.ref o], w, 0, 0)) rfl trivial ?_
      obtain ⟨p97, e98, hG99⟩ := hx_fr (k := 12) (s := 38) q85 rfl
      refine hx_gf (l := 19) rfl rfl rfl g84 e98 ?_
      refine hx_k (l := 20) (m := 0) rfl rfl (by decide) (fun z100 h101 => ?_)
      refine ax_go 1 (y := (21, [some (.ref o), some (.int a), some (.int b), some (.int c), some (.int e1), some (.int e2), none], [.int a, .int z100, .ref p97], w, 0, 0)) rfl trivial ?_
      obtain ⟨f102, g103, r104⟩ := hx_row hw hG99 (s := 38) (kd := 0) (n := 5) rfl (by decide)
      refine hx_is (s := 38) (l := 22) rfl rfl rfl hw hG99 g103 (by omega) (by omega) hx_sg0 (fun w105 f106 g107 e108 o109 n110 hw111 n112 => ?_)
      have hs113 := ty_same_tr (ty_same_rf w) (n112 fz (hx_ok hfz (by decide)))
      have hf114 := hFF _ _ (n112 pr_ (by decide)) hf
      refine ax_go 1 (y := (23, [some (.ref o), some (.int a), some (.int b), some (.int c), some (.int e1), some (.int e2), none], [.ref o], w105, 0, 0)) rfl trivial ?_
      refine hx_gf (l := 26) rfl rfl rfl ((n110 _ (hx_ne hG0 hG99 (by decide))).trans g84) e98 ?_
      refine hx_k (l := 27) (m := 1) rfl rfl (by decide) (fun z115 h116 => ?_)
      refine ax_go 1 (y := (28, [some (.ref o), some (.int a), some (.int b), some (.int c), some (.int e1), some (.int e2), none], [.int b, .int z115, .ref p97], w105, 0, 0)) rfl trivial ?_
      refine hx_is (s := 38) (l := 29) rfl rfl rfl hw111 hG99 g107 (by omega) (by omega) hx_sg0 (fun w117 f118 g119 e120 o121 n122 hw123 n124 => ?_)
      have hs125 := ty_same_tr hs113 (n124 fz (hx_ok hfz (by decide)))
      have hf126 := hFF _ _ (n124 pr_ (by decide)) hf114
      refine ax_go 1 (y := (30, [some (.ref o), some (.int a), some (.int b), some (.int c), some (.int e1), some (.int e2), none], [.ref o], w117, 0, 0)) rfl trivial ?_
      refine hx_gf (l := 33) rfl rfl rfl ((n122 _ (hx_ne hG0 hG99 (by decide))).trans ((n110 _ (hx_ne hG0 hG99 (by decide))).trans g84)) e98 ?_
      refine hx_k (l := 34) (m := 2) rfl rfl (by decide) (fun z127 h128 => ?_)
      refine ax_go 1 (y := (35, [some (.ref o), some (.int a), some (.int b), some (.int c), some (.int e1), some (.int e2), none], [.int c, .int z127, .ref p97], w117, 0, 0)) rfl trivial ?_
      refine hx_is (s := 38) (l := 36) rfl rfl rfl hw123 hG99 g119 (by omega) (by omega) hx_sg0 (fun w129 f130 g131 e132 o133 n134 hw135 n136 => ?_)
      have hs137 := ty_same_tr hs125 (n136 fz (hx_ok hfz (by decide)))
      have hf138 := hFF _ _ (n136 pr_ (by decide)) hf126
      refine ax_go 1 (y := (37, [some (.ref o), some (.int a), some (.int b), some (.int c), some (.int e1), some (.int e2), none], [.ref o], w129, 0, 0)) rfl trivial ?_
      refine hx_gf (l := 40) rfl rfl rfl ((n134 _ (hx_ne hG0 hG99 (by decide))).trans ((n122 _ (hx_ne hG0 hG99 (by decide))).trans ((n110 _ (hx_ne hG0 hG99 (by decide))).trans g84))) e98 ?_
      refine hx_k (l := 41) (m := 3) rfl rfl (by decide) (fun z139 h140 => ?_)
      refine ax_go 1 (y := (43, [some (.ref o), some (.int a), some (.int b), some (.int c), some (.int e1), some (.int e2), none], [.int e1, .int z139, .ref p97], w129, 0, 0)) rfl trivial ?_
      refine hx_is (s := 38) (l := 44) rfl rfl rfl hw135 hG99 g131 (by omega) (by omega) hx_sg0 (fun w141 f142 g143 e144 o145 n146 hw147 n148 => ?_)
      have hs149 := ty_same_tr hs137 (n148 fz (hx_ok hfz (by decide)))
      have hf150 := hFF _ _ (n148 pr_ (by decide)) hf138
      refine ax_go 1 (y := (45, [some (.ref o), some (.int a), some (.int b), some (.int c), some (.int e1), some (.int e2), none], [.ref o], w141, 0, 0)) rfl trivial ?_
      refine hx_gf (l := 48) rfl rfl rfl ((n146 _ (hx_ne hG0 hG99 (by decide))).trans ((n134 _ (hx_ne hG0 hG99 (by decide))).trans ((n122 _ (hx_ne hG0 hG99 (by decide))).trans ((n110 _ (hx_ne hG0 hG99 (by decide))).trans g84)))) e98 ?_
      refine hx_k (l := 49) (m := 4) rfl rfl (by decide) (fun z151 h152 => ?_)
      refine ax_go 1 (y := (51, [some (.ref o), some (.int a), some (.int b), some (.int c), some (.int e1), some (.int e2), none], [.int e2, .int z151, .ref p97], w141, 0, 0)) rfl trivial ?_
      refine hx_is (s := 38) (l := 52) rfl rfl rfl hw147 hG99 g143 (by omega) (by omega) hx_sg0 (fun w153 f154 g155 e156 o157 n158 hw159 n160 => ?_)
      have hs161 := ty_same_tr hs149 (n160 fz (hx_ok hfz (by decide)))
      have hf162 := hFF _ _ (n160 pr_ (by decide)) hf150
      refine hx_k (l := 53) (m := 0) rfl rfl (by decide) (fun z163 h164 => ?_)
      refine ax_go 1 (y := (55, [some (.ref o), some (.int a), some (.int b), some (.int c), some (.int e1), some (.int e2), some (.int z163)], [], w153, 0, 0)) rfl trivial ?_
      exact ct55 _ w153 z163 x86 hw159 hf162 hs161 ⟨_, ((n158 _ (hx_ne hG0 hG99 (by decide))).trans ((n146 _ (hx_ne hG0 hG99 (by decide))).trans ((n134 _ (hx_ne hG0 hG99 (by decide))).trans ((n122 _ (hx_ne hG0 hG99 (by decide))).trans ((n110 _ (hx_ne hG0 hG99 (by decide))).trans g84))))), e87⟩ (by omega) (by omega) (by omega) (Nat.lt_succ_self _)
    · -- 13
      refine hx_k (l := 14) (m := (-1)) rfl rfl (by decide) (fun z165 h166 => ?_)
      exact ax_ret rfl rfl trivial ⟨some (.int z165), _, rfl, hw, hf, (ty_same_rf w), (hx_ti (G := G) (lo := (-1)) (hi := 400) (by omega) (by omega)), trivial⟩
def fb_hp_X9_isTerm : List (Nat × Nat) := [(8, 3), (8, 5), (19, 999), (32, 999), (33, 999), (34, 999), (35, 999), (44, 999), (45, 999), (1, 0), (18, 999), (2, 11), (2, 14), (1, 15), (54, 11), (4, 2), (7, 9), (30, 13), (30, 34), (30, 2), (30, 22), (30, 23), (30, 24), (30, 25), (46, 999), (47, 999), (30, 35), (30, 36)]
theorem hp_X9_isTerm {ro : ab_R} {G : Nat → Nat} {fz : List (Nat × Nat)} {F : ab_W → Prop} (hF : ∀ w w', ty_same G prM w w' → F w → F w') (hfz : ∀ q ∈ fz, q ∈ fb_hp_X9_isTerm) (d : Nat) : hx_ct ro sp_ G (F9 G F) fz (ab_Ev ro ab_codes (d + 2)) 140 [(0, (-2147483648), 2147483647), (0, (-2147483648), 2147483647)] (some (0, 0, 1)) (fun _ _ => True) (fun as w v w1 => w1 = w ∧ ∀ wh vl z : Int32, as = [.int wh, .int vl] → v = some (.int z) → z.toInt ≠ 0 → (wh.toInt = 0 ∧ 0 ≤ vl.toInt ∧ vl.toInt ≤ 999) ∨ (wh.toInt = 1 ∧ 2 ≤ vl.toInt ∧ vl.toInt ≤ 99) ∨ (wh.toInt = 2 ∧ 0 ≤ vl.toInt ∧ vl.toInt ≤ 10) ∨ (wh.toInt = 3 ∧ 0 ≤ vl.toInt ∧ vl.toInt ≤ 9)) := by
  have hFF := F9_same hF
  refine hx_hand (d := d + 1) (by decide) (fun as w hw hf has hP => ?_)
  match as, has with
  | [v0, v1], ⟨h0, h1, _⟩ =>
    obtain ⟨wh, rfl, hl0, hh0⟩ := ty_int h0 rfl
    replace hl0 : ((-2147483648) : Int) ≤ wh.toInt := hl0
    replace hh0 : wh.toInt ≤ 2147483647 := hh0
    obtain ⟨vl, rfl, hl1, hh1⟩ := ty_int h1 rfl
    replace hl1 : ((-2147483648) : Int) ≤ vl.toInt := hl1
    replace hh1 : vl.toInt ≤ 2147483647 := hh1
    refine ⟨rfl, ?_⟩
    change ab_wp ro (ab_Ev ro ab_codes (d + 1)) 9 false (some .boolean) ab_k_X9_isTerm (fun o_1 => ∃ v w1, o_1 = (v, w1, 0, 0) ∧ ty_w sp_ G w1 ∧ (F9 G F) w1 ∧ ty_same G fz w w1 ∧ ck_res G (some (0, 0, 1)) v ∧ (fun as w v w1 => w1 = w ∧ ∀ wh vl z : Int32, as = [.int wh, .int vl] → v = some (.int z) → z.toInt ≠ 0 → (wh.toInt = 0 ∧ 0 ≤ vl.toInt ∧ vl.toInt ≤ 999) ∨ (wh.toInt = 1 ∧ 2 ≤ vl.toInt ∧ vl.toInt ≤ 99) ∨ (wh.toInt = 2 ∧ 0 ≤ vl.toInt ∧ vl.toInt ≤ 10) ∨ (wh.toInt = 3 ∧ 0 ≤ vl.toInt ∧ vl.toInt ≤ 9)) ([.int wh, .int vl] : List Value) w v w1) (0, [some (.int wh), some (.int vl)], [], w, 0, 0)
    refine ax_go 1 (y := (1, [some (.int wh), some (.int vl)], [.int wh], w, 0, 0)) rfl trivial ?_
    by_cases h1 : wh.toInt = 0
    · -- case
      refine hx_tsq (l := 32) 0 rfl rfl (by decide) (by decide) rfl (by omega) (by omega) ?_
      refine ax_go 1 (y := (33, [some (.int wh), some (.int vl)], [.int vl], w, 0, 0)) rfl trivial ?_
      refine hx_k (l := 34) (m := 0) rfl rfl (by decide) (fun z2 h3 => ?_)
      refine hx_k (l := 37) (m := 999) rfl rfl (by decide) (fun z4 h5 => ?_)
      refine hx_pi (l := 40) (as := [.int vl, .int z2, .int z4]) rfl rfl rfl (hp_X9_lies (fz := fz) hFF (fun q hq => (by decide +kernel : ∀ q ∈ fb_hp_X9_isTerm, q ∈ fb_hp_X9_lies) q (hfz q hq)) (d + 0)) hw hf ⟨(ck_top_ok (G := G) vl), (ck_top_ok (G := G) z2), (ck_top_ok (G := G) z4), trivial⟩ trivial (fun w6 z11 hw7 hf8 m9 a12 b13 u14 => ?_)
      rw [u14.1]
      have u15 := u14.2 _ _ _ _ rfl rfl
      exact ax_ret rfl rfl ⟨hx_01 (by omega) (by omega), trivial⟩ ⟨some (.int z11), _, rfl, hw, hf, (ty_same_rf w), (hx_ti (G := G) (lo := 0) (hi := 1) (by omega) (by omega)), ⟨rfl, fun p1 q1 z1 h1 h2 hz => by cases h1; cases h2; omega⟩⟩
    by_cases h16 : wh.toInt = 1
    · -- case
      refine hx_tsq (l := 41) 1 rfl rfl (by decide) (by decide) rfl (by omega) (by omega) ?_
      refine ax_go 1 (y := (42, [some (.int wh), some (.int vl)], [.int vl], w, 0, 0)) rfl trivial ?_
      refine hx_k (l := 43) (m := 2) rfl rfl (by decide) (fun z17 h18 => ?_)
      refine hx_k (l := 45) (m := 99) rfl rfl (by decide) (fun z19 h20 => ?_)
      refine hx_pi (l := 48) (as := [.int vl, .int z17, .int z19]) rfl rfl rfl (hp_X9_lies (fz := fz) hFF (fun q hq => (by decide +kernel : ∀ q ∈ fb_hp_X9_isTerm, q ∈ fb_hp_X9_lies) q (hfz q hq)) (d + 0)) hw hf ⟨(ck_top_ok (G := G) vl), (ck_top_ok (G := G) z17), (ck_top_ok (G := G) z19), trivial⟩ trivial (fun w21 z26 hw22 hf23 m24 a27 b28 u29 => ?_)
      rw [u29.1]
      have u30 := u29.2 _ _ _ _ rfl rfl
      exact ax_ret rfl rfl ⟨hx_01 (by omega) (by omega), trivial⟩ ⟨some (.int z26), _, rfl, hw, hf, (ty_same_rf w), (hx_ti (G := G) (lo := 0) (hi := 1) (by omega) (by omega)), ⟨rfl, fun p1 q1 z1 h1 h2 hz => by cases h1; cases h2; omega⟩⟩
    by_cases h31 : wh.toInt = 2
    · -- case
      refine hx_tsq (l := 49) 2 rfl rfl (by decide) (by decide) rfl (by omega) (by omega) ?_
      refine ax_go 1 (y := (50, [some (.int wh), some (.int vl)], [.int vl], w, 0, 0)) rfl trivial ?_
      refine hx_k (l := 51) (m := 0) rfl rfl (by decide) (fun z32 h33 => ?_)
      refine hx_k (l := 53) (m := 10) rfl rfl (by decide) (fun z34 h35 => ?_)
      refine hx_pi (l := 56) (as := [.int vl, .int z32, .int z34]) rfl rfl rfl (hp_X9_lies (fz := fz) hFF (fun q hq => (by decide +kernel : ∀ q ∈ fb_hp_X9_isTerm, q ∈ fb_hp_X9_lies) q (hfz q hq)) (d + 0)) hw hf ⟨(ck_top_ok (G := G) vl), (ck_top_ok (G := G) z32), (ck_top_ok (G := G) z34), trivial⟩ trivial (fun w36 z41 hw37 hf38 m39 a42 b43 u44 => ?_)
      rw [u44.1]
      have u45 := u44.2 _ _ _ _ rfl rfl
      exact ax_ret rfl rfl ⟨hx_01 (by omega) (by omega), trivial⟩ ⟨some (.int z41), _, rfl, hw, hf, (ty_same_rf w), (hx_ti (G := G) (lo := 0) (hi := 1) (by omega) (by omega)), ⟨rfl, fun p1 q1 z1 h1 h2 hz => by cases h1; cases h2; omega⟩⟩
    by_cases h46 : wh.toInt = 3
    · -- case
      refine hx_tsq (l := 57) 3 rfl rfl (by decide) (by decide) rfl (by omega) (by omega) ?_
      refine ax_go 1 (y := (58, [some (.int wh), some (.int vl)], [.int vl], w, 0, 0)) rfl trivial ?_
      refine hx_k (l := 59) (m := 0) rfl rfl (by decide) (fun z47 h48 => ?_)
      refine hx_k (l := 61) (m := 9) rfl rfl (by decide) (fun z49 h50 => ?_)
      refine hx_pi (l := 64) (as := [.int vl, .int z47, .int z49]) rfl rfl rfl (hp_X9_lies (fz := fz) hFF (fun q hq => (by decide +kernel : ∀ q ∈ fb_hp_X9_isTerm, q ∈ fb_hp_X9_lies) q (hfz q hq)) (d + 0)) hw hf ⟨(ck_top_ok (G := G) vl), (ck_top_ok (G := G) z47), (ck_top_ok (G := G) z49), trivial⟩ trivial (fun w51 z56 hw52 hf53 m54 a57 b58 u59 => ?_)
      rw [u59.1]
      have u60 := u59.2 _ _ _ _ rfl rfl
      exact ax_ret rfl rfl ⟨hx_01 (by omega) (by omega), trivial⟩ ⟨some (.int z56), _, rfl, hw, hf, (ty_same_rf w), (hx_ti (G := G) (lo := 0) (hi := 1) (by omega) (by omega)), ⟨rfl, fun p1 q1 z1 h1 h2 hz => by cases h1; cases h2; omega⟩⟩
    refine hx_tsd (l := 65) rfl (by decide) rfl (by omega) ?_
    refine hx_k (l := 66) (m := 0) rfl rfl (by decide) (fun z61 h62 => ?_)
    exact ax_ret rfl rfl ⟨hx_01 (by omega) (by omega), trivial⟩ ⟨some (.int z61), _, rfl, hw, hf, (ty_same_rf w), (hx_ti (G := G) (lo := 0) (hi := 1) (by omega) (by omega)), ⟨rfl, fun p1 q1 z1 h1 h2 hz => by cases h1; cases h2; omega⟩⟩
def fb_X9_terms : List (Nat × Nat) := [(8, 3), (8, 5), (19, 999), (33, 999), (34, 999), (35, 999), (44, 999), (45, 999), (1, 0), (18, 999), (2, 11), (2, 14), (1, 15), (54, 11), (4, 2), (7, 9), (30, 13), (30, 2), (30, 22), (30, 23), (30, 24), (30, 25), (46, 999), (47, 999), (30, 35), (30, 36)]
theorem h_X9_terms {ro : ab_R} {G : Nat → Nat} {fz : List (Nat × Nat)} {F : ab_W → Prop} (hF : ∀ w w', ty_same G prM w w' → F w → F w') (hfz : ∀ q ∈ fz, q ∈ fb_X9_terms) (d : Nat) : ck_ct ro sp_ G (F9 G F) fz (ab_Ev ro ab_codes (d + 3)) 141 [(2, 30, 0), (0, (-2147483648), 2147483647), (0, (-2147483648), 2147483647)] (some (0, (-2147483648), 2147483647)) 0 0 := by
  have hFF := F9_same hF
  refine ck_hand (d := d + 2) (by decide) (fun as w hw hf has => ?_)
  match as, has with
  | [v0, v1, v2], ⟨h0, h1, h2, _⟩ =>
    obtain ⟨o, rfl, _, hG0⟩ := ty_refn h0 rfl rfl
    replace hG0 : G o = 30 := hG0
    obtain ⟨wh, rfl, hl1, hh1⟩ := ty_int h1 rfl
    replace hl1 : ((-2147483648) : Int) ≤ wh.toInt := hl1
    replace hh1 : wh.toInt ≤ 2147483647 := hh1
    obtain ⟨vl, rfl, hl2, hh2⟩ := ty_int h2 rfl
    replace hl2 : ((-2147483648) : Int) ≤ vl.toInt := hl2
    replace hh2 : vl.toInt ≤ 2147483647 := hh2
    refine ⟨rfl, ?_⟩
    change ab_wp ro (ab_Ev ro ab_codes (d + 2)) 9 false (some .int) ab_k_X9_terms (fun o_1 => ∃ v w1, o_1 = (v, w1, 0, 0) ∧ ty_w sp_ G w1 ∧ (F9 G F) w1 ∧ ty_same G fz w w1 ∧ ck_res G (some (0, (-2147483648), 2147483647)) v ∧ ck_wit 0 0 [.ref o, .int wh, .int vl] v) (0, [some (.ref o), some (.int wh), some (.int vl), none, none], [], w, 0, 0)
    refine ax_go 2 (y := (2, [some (.ref o), some (.int wh), some (.int vl), none, none], [.int vl, .int wh], w, 0, 0)) rfl trivial ?_
    refine hx_pi (l := 5) (as := [.int wh, .int vl]) rfl rfl rfl (hp_X9_isTerm (fz := fz) hF (fun q hq => (by decide +kernel : ∀ q ∈ fb_X9_terms, q ∈ fb_hp_X9_isTerm) q (hfz q hq)) (d + 0)) hw hf ⟨(ck_top_ok (G := G) wh), (ck_top_ok (G := G) vl), trivial⟩ trivial (fun w1 z6 hw2 hf3 m4 a7 b8 u9 => ?_)
    rw [u9.1]
    have u10 := u9.2 _ _ _ rfl rfl
    refine hx_if_ne (l := 8) rfl rfl (fun h11 => ?_) (fun h11 => ?_)
    · -- 14
      refine ax_go 1 (y := (15, [some (.ref o), some (.int wh), some (.int vl), none, none], [.int wh], w, 0, 0)) rfl trivial ?_
      refine hx_if_ne (l := 18) rfl rfl (fun h12 => ?_) (fun h12 => ?_)
      · -- 23
        refine hx_k (l := 25) (m := 107) rfl rfl (by decide) (fun z13 h14 => ?_)
        refine ax_go 1 (y := (26, [some (.ref o), some (.int wh), some (.int vl), none, none], [.int wh, .int z13], w, 0, 0)) rfl trivial ?_
        refine hx_add (l := 27) rfl rfl (fun z15 h16 => ?_)
        replace h16 := h16 (by omega) (by omega)
        refine hx_k (l := 28) (m := 1) rfl rfl (by decide) (fun z17 h18 => ?_)
        refine hx_sub (l := 29) rfl rfl (fun z19 h20 => ?_)
        replace h20 := h20 (by omega) (by omega)
        refine ax_go 2 (y := (31, [some (.ref o), some (.int wh), some (.int vl), some (.int z19), none], [.ref o], w, 0, 0)) rfl trivial ?_
        obtain ⟨fs21, g22, _, q23⟩ := hx_obj hw hG0 (s := 30) rfl (by decide)
        obtain ⟨p24, e25, hG26⟩ := hx_fr (k := 2) (s := 32) q23 rfl
        refine hx_gf (l := 34) rfl rfl rfl g22 e25 ?_
        refine ax_go 1 (y := (35, [some (.ref o), some (.int wh), some (.int vl), some (.int z19), none], [.int z19, .ref p24], w, 0, 0)) rfl trivial ?_
        obtain ⟨f27, g28, r29⟩ := hx_row hw hG26 (s := 32) (kd := 0) (n := 5721) rfl (by decide)
        refine hx_il (l := 36) rfl rfl g28 (by omega) (by omega) (fun z30 h31 => ?_)
        refine ax_go 2 (y := (39, [some (.ref o), some (.int wh), some (.int vl), some (.int z19), some (.int z30)], [.ref o], w, 0, 0)) rfl trivial ?_
        refine hx_gf (l := 42) rfl rfl rfl g22 e25 ?_
        refine ax_go 2 (y := (44, [some (.ref o), some (.int wh), some (.int vl), some (.int z19), some (.int z30)], [.int vl, .int z19, .ref p24], w, 0, 0)) rfl trivial ?_
        refine hx_is (s := 32) (l := 45) rfl rfl rfl hw hG26 g28 (by omega) (by omega) (hx_sg1 (fun _ _ _ => ⟨by omega, by omega⟩) (hx_sg1 (fun _ _ _ => ⟨by omega, by omega⟩) (hx_sg1 (fun _ _ _ => ⟨by omega, by omega⟩) (hx_sg1 (fun _ _ _ => ⟨by omega, by omega⟩) (hx_sg1 (fun _ _ _ => ⟨by omega, by omega⟩) (hx_sg1 (fun _ _ _ => ⟨by omega, by omega⟩) (hx_sg1 (fun _ _ _ => ⟨by omega, by omega⟩) (hx_sg1 (fun _ _ _ => ⟨by omega, by omega⟩) (hx_sg1 (fun _ _ _ => ⟨by omega, by omega⟩) hx_sg0))))))))) (fun w32 f33 g34 e35 o36 n37 hw38 n39 => ?_)
        have hs40 := ty_same_tr (ty_same_rf w) (n39 fz (hx_ok hfz (by decide)))
        have kp42 := hf.1.1 _ _ hG26 g28
        have kq43 : kb z19.toInt.toNat vl.toInt := ⟨⟨fun _ => by omega, fun _ _ _ => by omega, fun _ _ _ => by omega, fun _ => by omega⟩, fun _ _ => by omega, fun _ _ _ => by omega, fun _ => by omega, fun _ => by omega, fun _ => by omega, fun _ => by omega, fun _ => by omega, fun _ _ => by omega⟩
        have hf41 : F9 G F w32 := ⟨FM_k hf.1 hG26 g34 n37 (KP_up kp42 o36 (by rw [e35]; exact kq43) (by omega)), hF _ _ (n39 prM (by decide)) hf.2⟩
        refine ax_go 2 (y := (48, [some (.ref o), some (.int wh), some (.int vl), some (.int z19), some (.int z30)], [.int z30, .ref o], w32, 0, 0)) rfl trivial ?_
        refine hx_ci (l := 51) (as := [.ref o, .int z30]) rfl rfl (hx_iv (j := 126) (n := 1) (o := o) (r := []) rfl rfl ((n37 _ (hx_ne hG0 hG26 (by decide))).trans g22) rfl) (h_X9_settled (fz := fz) hF (fun q hq => (by decide +kernel : ∀ q ∈ fb_X9_terms, q ∈ fb_X9_settled) q (hfz q hq)) (d + 0)) hw38 hf41 ⟨(hx_tr (G := G) (s := 30) (b := 0) hG0 (by decide)), (ck_top_ok (G := G) z30), trivial⟩ (fun w44 z49 hw45 hf46 m47 a50 b51 u52 => ?_)
        have hs48 := ty_same_tr hs40 m47
        exact ax_ret rfl rfl trivial ⟨some (.int z49), _, rfl, hw45, hf46, hs48, (ck_top_ok (G := G) z49), trivial⟩
      · -- 18
        refine hx_k (l := 20) (m := 70) rfl rfl (by decide) (fun z53 h54 => ?_)
        refine ax_go 3 (y := (31, [some (.ref o), some (.int wh), some (.int vl), some (.int z53), none], [.ref o], w, 0, 0)) rfl trivial ?_
        obtain ⟨fs55, g56, _, q57⟩ := hx_obj hw hG0 (s := 30) rfl (by decide)
        obtain ⟨p58, e59, hG60⟩ := hx_fr (k := 2) (s := 32) q57 rfl
        refine hx_gf (l := 34) rfl rfl rfl g56 e59 ?_
        refine ax_go 1 (y := (35, [some (.ref o), some (.int wh), some (.int vl), some (.int z53), none], [.int z53, .ref p58], w, 0, 0)) rfl trivial ?_
        obtain ⟨f61, g62, r63⟩ := hx_row hw hG60 (s := 32) (kd := 0) (n := 5721) rfl (by decide)
        refine hx_il (l := 36) rfl rfl g62 (by omega) (by omega) (fun z64 h65 => ?_)
        refine ax_go 2 (y := (39, [some (.ref o), some (.int wh), some (.int vl), some (.int z53), some (.int z64)], [.ref o], w, 0, 0)) rfl trivial ?_
        refine hx_gf (l := 42) rfl rfl rfl g56 e59 ?_
        refine ax_go 2 (y := (44, [some (.ref o), some (.int wh), some (.int vl), some (.int z53), some (.int z64)], [.int vl, .int z53, .ref p58], w, 0, 0)) rfl trivial ?_
        refine hx_is (s := 32) (l := 45) rfl rfl rfl hw hG60 g62 (by omega) (by omega) (hx_sg1 (fun _ _ _ => ⟨by omega, by omega⟩) (hx_sg1 (fun _ _ _ => ⟨by omega, by omega⟩) (hx_sg1 (fun _ _ _ => ⟨by omega, by omega⟩) (hx_sg1 (fun _ _ _ => ⟨by omega, by omega⟩) (hx_sg1 (fun _ _ _ => ⟨by omega, by omega⟩) (hx_sg1 (fun _ _ _ => ⟨by omega, by omega⟩) (hx_sg1 (fun _ _ _ => ⟨by omega, by omega⟩) (hx_sg1 (fun _ _ _ => ⟨by omega, by omega⟩) (hx_sg1 (fun _ _ _ => ⟨by omega, by omega⟩) hx_sg0))))))))) (fun w66 f67 g68 e69 o70 n71 hw72 n73 => ?_)
        have hs74 := ty_same_tr (ty_same_rf w) (n73 fz (hx_ok hfz (by decide)))
        have kp76 := hf.1.1 _ _ hG60 g62
        have kq77 : kb z53.toInt.toNat vl.toInt := ⟨⟨fun _ => by omega, fun _ _ _ => by omega, fun _ _ _ => by omega, fun _ => by omega⟩, fun _ _ => by omega, fun _ _ _ => by omega, fun _ => by omega, fun _ => by omega, fun _ => by omega, fun _ => by omega, fun _ => by omega, fun _ _ => by omega⟩
        have hf75 : F9 G F w66 := ⟨FM_k hf.1 hG60 g68 n71 (KP_up kp76 o70 (by rw [e69]; exact kq77) (by omega)), hF _ _ (n73 prM (by decide)) hf.2⟩
        refine ax_go 2 (y := (48, [some (.ref o), some (.int wh), some (.int vl), some (.int z53), some (.int z64)], [.int z64, .ref o], w66, 0, 0)) rfl trivial ?_
        refine hx_ci (l := 51) (as := [.ref o, .int z64]) rfl rfl (hx_iv (j := 126) (n := 1) (o := o) (r := []) rfl rfl ((n71 _ (hx_ne hG0 hG60 (by decide))).trans g56) rfl) (h_X9_settled (fz := fz) hF (fun q hq => (by decide +kernel : ∀ q ∈ fb_X9_terms, q ∈ fb_X9_settled) q (hfz q hq)) (d + 0)) hw72 hf75 ⟨(hx_tr (G := G) (s := 30) (b := 0) hG0 (by decide)), (ck_top_ok (G := G) z64), trivial⟩ (fun w78 z83 hw79 hf80 m81 a84 b85 u86 => ?_)
        have hs82 := ty_same_tr hs74 m81
        exact ax_ret rfl rfl trivial ⟨some (.int z83), _, rfl, hw79, hf80, hs82, (ck_top_ok (G := G) z83), trivial⟩
    · -- 8
      refine ax_go 1 (y := (9, [some (.ref o), some (.int wh), some (.int vl), none, none], [.ref o], w, 0, 0)) rfl trivial ?_
      refine hx_k (l := 10) (m := (-1)) rfl rfl (by decide) (fun z87 h88 => ?_)
      obtain ⟨fs89, g90, _, q91⟩ := hx_obj hw hG0 (s := 30) rfl (by decide)
      refine hx_ci (l := 13) (as := [.ref o, .int z87]) rfl rfl (hx_iv (j := 124) (n := 1) (o := o) (r := []) rfl rfl g90 rfl) (cc_X9_refuses_0 (fz := fz) hFF  (fun q hq => (by decide +kernel : ∀ q ∈ fb_X9_terms, q ∈ fr_X9_refuses_0) q (hfz q hq)) (d + 1)) hw hf ⟨(hx_tr (G := G) (s := 30) (b := 0) hG0 (by decide)), (hx_ti (G := G) (lo := (-6)) (hi := (-1)) (by omega) (by omega)), trivial⟩ (fun w92 z97 hw93 hf94 m95 a98 b99 u100 => ?_)
      have hs96 := ty_same_tr (ty_same_rf w) m95
      exact ax_ret rfl rfl trivial ⟨some (.int z97), _, rfl, hw93, hf94, hs96, (ck_top_ok (G := G) z97), trivial⟩
def fb_X9_isAllHeard : List (Nat × Nat) := [(8, 3), (8, 5), (19, 999), (32, 999), (33, 999), (34, 999), (35, 999), (44, 999), (45, 999), (1, 0), (18, 999), (2, 11), (2, 14), (1, 15), (54, 11), (4, 2), (7, 9), (30, 13), (30, 34), (30, 2), (30, 22), (30, 23), (30, 24), (30, 25), (46, 999), (47, 999), (30, 35), (30, 36)]
theorem h_X9_isAllHeard {ro : ab_R} {G : Nat → Nat} {fz : List (Nat × Nat)} {F : ab_W → Prop} (hF : ∀ w w', ty_same G prM w w' → F w → F w') (hfz : ∀ q ∈ fz, q ∈ fb_X9_isAllHeard) (d : Nat) : ck_ct ro sp_ G (F9 G F) fz (ab_Ev ro ab_codes (d + 1)) 220 [(2, 30, 0)] (some (0, 0, 1)) 0 0 := by
  have hFF := F9_same hF
  refine ck_hand (d := d + 0) (by decide) (fun as w hw hf has => ?_)
  match as, has with
  | [v0], ⟨h0, _⟩ =>
    obtain ⟨o, rfl, _, hG0⟩ := ty_refn h0 rfl rfl
    replace hG0 : G o = 30 := hG0
    refine ⟨rfl, ?_⟩
    have ct4 : ∀ (n : Nat) (w1 : ab_W) (iz : Int32) (k : Int32), ty_w sp_ G w1 → (F9 G F) w1 → ty_same G fz w w1 → (0 ≤ iz.toInt) → (iz.toInt ≤ 1) → (0 ≤ k.toInt) → (k.toInt ≤ 8) → (9 - k.toInt).toNat < n → ab_wp ro (ab_Ev ro ab_codes d) 9 false (some .boolean) ab_k_X9_isAllHeard (fun o_1 => ∃ v w1, o_1 = (v, w1, 0, 0) ∧ ty_w sp_ G w1 ∧ (F9 G F) w1 ∧ ty_same G fz w w1 ∧ ck_res G (some (0, 0, 1)) v ∧ ck_wit 0 0 [.ref o] v) (4, [some (.ref o), some (.int iz), some (.int k)], [], w1, 0, 0) := by
      intro n
      induction n with
      | zero => intro w1 iz k hw6 hf7 hs8 i2 i3 i4 i5 hm; exact absurd hm (Nat.not_lt_zero _)
      | succ n ih4 =>
        intro w1 iz k hw6 hf7 hs8 i2 i3 i4 i5 hm4
        refine ax_go 2 (y := (6, [some (.ref o), some (.int iz), some (.int k)], [.ref o, .int k], w1, 0, 0)) rfl trivial ?_
        obtain ⟨fs9, g10, _, q11⟩ := hx_obj hw6 hG0 (s := 30) rfl (by decide)
        obtain ⟨p12, e13, hG14⟩ := hx_fr (k := 2) (s := 32) q11 rfl
        refine hx_gf (l := 9) rfl rfl rfl g10 e13 ?_
        refine hx_k (l := 11) (m := 111) rfl rfl (by decide) (fun z15 h16 => ?_)
        obtain ⟨f17, g18, r19⟩ := hx_row hw6 hG14 (s := 32) (kd := 0) (n := 5721) rfl (by decide)
        refine hx_il (l := 12) rfl rfl g18 (by omega) (by omega) (fun z20 h21 => ?_)
        have b22 := ((hf7.1.1 _ _ hG14 g18).1 z15.toInt.toNat (by omega)).2.2.2.2.2.1 (by omega)
        rw [← h21] at b22
        refine hx_ic_ge (l := 15) rfl rfl (fun h23 => ?_) (fun h23 => ?_)
        · -- 63
          refine ax_go 1 (y := (64, [some (.ref o), some (.int iz), some (.int k)], [.int iz], w1, 0, 0)) rfl trivial ?_
          exact ax_ret rfl rfl ⟨hx_01 (by omega) (by omega), trivial⟩ ⟨some (.int iz), _, rfl, hw6, hf7, hs8, (hx_ti (G := G) (lo := 0) (hi := 1) (by omega) (by omega)), trivial⟩
        · -- 15
          refine ax_go 1 (y := (16, [some (.ref o), some (.int iz), some (.int k)], [.int iz], w1, 0, 0)) rfl trivial ?_
          refine hx_if_eq (l := 19) rfl rfl (fun h24 => ?_) (fun h24 => ?_)
          · -- 55
            refine hx_k (l := 56) (m := 0) rfl rfl (by decide) (fun z25 h26 => ?_)
            refine ax_go 1 (y := (57, [some (.ref o), some (.int z25), some (.int k)], [], w1, 0, 0)) rfl trivial ?_
            refine hx_iinc (x := k) (n := 1) (l := 60) rfl rfl rfl (Nat.le_of_ble_eq_true rfl) (by omega) (by omega) (by decide) (fun z27 h28 => ?_)
            change ab_wp ro (ab_Ev ro ab_codes d) 9 false (some .boolean) ab_k_X9_isAllHeard (fun o_1 => ∃ v w1, o_1 = (v, w1, 0, 0) ∧ ty_w sp_ G w1 ∧ (F9 G F) w1 ∧ ty_same G fz w w1 ∧ ck_res G (some (0, 0, 1)) v ∧ ck_wit 0 0 [.ref o] v) (60, [some (.ref o), some (.int z25), some (.int z27)], [], w1, 0, 0)
            refine ax_go 1 (y := (4, [some (.ref o), some (.int z25), some (.int z27)], [], w1, 0, 0)) rfl trivial ?_
            exact ih4 w1 z25 z27 hw6 hf7 hs8 (by omega) (by omega) (by omega) (by omega) (by omega)
          · -- 19
            refine ax_go 1 (y := (20, [some (.ref o), some (.int iz), some (.int k)], [.ref o], w1, 0, 0)) rfl trivial ?_
            obtain ⟨p29, e30, hG31⟩ := hx_fr (k := 36) (s := 47) q11 rfl
            refine hx_gf (l := 23) rfl rfl rfl g10 e30 ?_
            refine ax_go 1 (y := (24, [some (.ref o), some (.int iz), some (.int k)], [.ref o, .ref p29], w1, 0, 0)) rfl trivial ?_
            refine hx_gf (l := 27) rfl rfl rfl g10 e13 ?_
            refine hx_k (l := 29) (m := 91) rfl rfl (by decide) (fun z32 h33 => ?_)
            refine hx_k (l := 30) (m := 2) rfl rfl (by decide) (fun z34 h35 => ?_)
            refine ax_go 1 (y := (31, [some (.ref o), some (.int iz), some (.int k)], [.int k, .int z34, .int z32, .ref p12, .ref p29], w1, 0, 0)) rfl trivial ?_
            refine hx_mul (l := 32) rfl rfl (fun z36 h37 => ?_)
            rw [h35] at h37
            replace h37 := h37 (by omega) (by omega)
            refine hx_add (l := 33) rfl rfl (fun z38 h39 => ?_)
            replace h39 := h39 (by omega) (by omega)
            refine hx_il (l := 34) rfl rfl g18 (by omega) (by omega) (fun z40 h41 => ?_)
            have b42 := ((hf7.1.1 _ _ hG14 g18).1 z38.toInt.toNat (by omega)).2.2.1 (by omega) (by omega) (by omega)
            rw [← h41] at b42
            obtain ⟨f43, g44, r45⟩ := hx_row hw6 hG31 (s := 47) (kd := 0) (n := 10) rfl (by decide)
            refine hx_il (l := 35) rfl rfl g44 (by omega) (by omega) (fun z46 h47 => ?_)
            have b48 := r45 (0, 10, 1, 0, 0, 98) (by decide) z40.toInt.toNat (show (0 : Nat) ≤ _ by omega) (show _ < (10 : Nat) by omega) (show _ % (1 : Nat) = 0 by omega)
            rw [← h47] at b48
            replace b48 : (0 : Int) ≤ z46.toInt ∧ z46.toInt ≤ 98 := b48
            refine ax_go 1 (y := (36, [some (.ref o), some (.int iz), some (.int k)], [.ref o, .int z46], w1, 0, 0)) rfl trivial ?_
            refine hx_gf (l := 39) rfl rfl rfl g10 e13 ?_
            refine hx_k (l := 41) (m := 91) rfl rfl (by decide) (fun z49 h50 => ?_)
            refine hx_k (l := 42) (m := 2) rfl rfl (by decide) (fun z51 h52 => ?_)
            refine ax_go 1 (y := (43, [some (.ref o), some (.int iz), some (.int k)], [.int k, .int z51, .int z49, .ref p12, .int z46], w1, 0, 0)) rfl trivial ?_
            refine hx_mul (l := 44) rfl rfl (fun z53 h54 => ?_)
            rw [h52] at h54
            replace h54 := h54 (by omega) (by omega)
            refine hx_add (l := 45) rfl rfl (fun z55 h56 => ?_)
            replace h56 := h56 (by omega) (by omega)
            refine hx_k (l := 46) (m := 1) rfl rfl (by decide) (fun z57 h58 => ?_)
            refine hx_add (l := 47) rfl rfl (fun z59 h60 => ?_)
            replace h60 := h60 (by omega) (by omega)
            refine hx_il (l := 48) rfl rfl g18 (by omega) (by omega) (fun z61 h62 => ?_)
            refine hx_ic_ne (l := 51) rfl rfl (fun h63 => ?_) (fun h63 => ?_)
            · -- 55
              refine hx_k (l := 56) (m := 0) rfl rfl (by decide) (fun z64 h65 => ?_)
              refine ax_go 1 (y := (57, [some (.ref o), some (.int z64), some (.int k)], [], w1, 0, 0)) rfl trivial ?_
              refine hx_iinc (x := k) (n := 1) (l := 60) rfl rfl rfl (Nat.le_of_ble_eq_true rfl) (by omega) (by omega) (by decide) (fun z66 h67 => ?_)
              change ab_wp ro (ab_Ev ro ab_codes d) 9 false (some .boolean) ab_k_X9_isAllHeard (fun o_1 => ∃ v w1, o_1 = (v, w1, 0, 0) ∧ ty_w sp_ G w1 ∧ (F9 G F) w1 ∧ ty_same G fz w w1 ∧ ck_res G (some (0, 0, 1)) v ∧ ck_wit 0 0 [.ref o] v) (60, [some (.ref o), some (.int z64), some (.int z66)], [], w1, 0, 0)
              refine ax_go 1 (y := (4, [some (.ref o), some (.int z64), some (.int z66)], [], w1, 0, 0)) rfl trivial ?_
              exact ih4 w1 z64 z66 hw6 hf7 hs8 (by omega) (by omega) (by omega) (by omega) (by omega)
            · -- 51
              refine hx_k (l := 52) (m := 1) rfl rfl (by decide) (fun z68 h69 => ?_)
              refine ax_go 2 (y := (57, [some (.ref o), some (.int z68), some (.int k)], [], w1, 0, 0)) rfl trivial ?_
              refine hx_iinc (x := k) (n := 1) (l := 60) rfl rfl rfl (Nat.le_of_ble_eq_true rfl) (by omega) (by omega) (by decide) (fun z70 h71 => ?_)
              change ab_wp ro (ab_Ev ro ab_codes d) 9 false (some .boolean) ab_k_X9_isAllHeard (fun o_1 => ∃ v w1, o_1 = (v, w1, 0, 0) ∧ ty_w sp_ G w1 ∧ (F9 G F) w1 ∧ ty_same G fz w w1 ∧ ck_res G (some (0, 0, 1)) v ∧ ck_wit 0 0 [.ref o] v) (60, [some (.ref o), some (.int z68), some (.int z70)], [], w1, 0, 0)
              refine ax_go 1 (y := (4, [some (.ref o), some (.int z68), some (.int z70)], [], w1, 0, 0)) rfl trivial ?_
              exact ih4 w1 z68 z70 hw6 hf7 hs8 (by omega) (by omega) (by omega) (by omega) (by omega)
    change ab_wp ro (ab_Ev ro ab_codes d) 9 false (some .boolean) ab_k_X9_isAllHeard (fun o_1 => ∃ v w1, o_1 = (v, w1, 0, 0) ∧ ty_w sp_ G w1 ∧ (F9 G F) w1 ∧ ty_same G fz w w1 ∧ ck_res G (some (0, 0, 1)) v ∧ ck_wit 0 0 [.ref o] v) (0, [some (.ref o), none, none], [], w, 0, 0)
    refine hx_k (l := 1) (m := 1) rfl rfl (by decide) (fun z72 h73 => ?_)
    refine ax_go 1 (y := (2, [some (.ref o), some (.int z72), none], [], w, 0, 0)) rfl trivial ?_
    refine hx_k (l := 3) (m := 0) rfl rfl (by decide) (fun z74 h75 => ?_)
    refine ax_go 1 (y := (4, [some (.ref o), some (.int z72), some (.int z74)], [], w, 0, 0)) rfl trivial ?_
    exact ct4 _ w z72 z74 hw hf (ty_same_rf w) (by omega) (by omega) (by omega) (by omega) (Nat.lt_succ_self _)
def fb_X9_keeps : List (Nat × Nat) := [(8, 3), (8, 5), (19, 999), (32, 999), (33, 999), (34, 999), (35, 999), (45, 999), (1, 0), (18, 999), (2, 11), (2, 14), (1, 15), (54, 11), (4, 2), (7, 9), (30, 13), (30, 2), (30, 22), (30, 23), (30, 24), (30, 25), (46, 999), (47, 999), (30, 35), (30, 36)]
theorem h_X9_keeps {ro : ab_R} {G : Nat → Nat} {fz : List (Nat × Nat)} {F : ab_W → Prop} (hF : ∀ w w', ty_same G prM w w' → F w → F w') (hfz : ∀ q ∈ fz, q ∈ fb_X9_keeps) (d : Nat) : ck_ct ro sp_ G (F9 G F) fz (ab_Ev ro ab_codes (d + 1)) 195 [(2, 30, 0), (0, (-2147483648), 2147483647)] none 0 0 := by
  have hFF := F9_same hF
  refine ck_hand (d := d + 0) (by decide) (fun as w hw hf has => ?_)
  match as, has with
  | [v0, v1], ⟨h0, h1, _⟩ =>
    obtain ⟨o, rfl, _, hG0⟩ := ty_refn h0 rfl rfl
    replace hG0 : G o = 30 := hG0
    obtain ⟨wt, rfl, hl1, hh1⟩ := ty_int h1 rfl
    replace hl1 : ((-2147483648) : Int) ≤ wt.toInt := hl1
    replace hh1 : wt.toInt ≤ 2147483647 := hh1
    refine ⟨rfl, ?_⟩
    have ct54 : ∀ (n : Nat) (w1 : ab_W) (wd3 : Int32) (k3 : Int32) (um3 : Int32), ty_w sp_ G w1 → (F9 G F) w1 → ty_same G fz w w1 → (hx_has w1 o 9 34 (.int um3)) → (wd3.toInt = 72) → (0 ≤ k3.toInt) → (k3.toInt ≤ 71) → (um3.toInt ≤ 15) → (72 - k3.toInt).toNat < n → ab_wp ro (ab_Ev ro ab_codes d) 9 false none ab_k_X9_keeps (fun o_1 => ∃ v w1, o_1 = (v, w1, 0, 0) ∧ ty_w sp_ G w1 ∧ (F9 G F) w1 ∧ ty_same G fz w w1 ∧ ck_res G none v ∧ ck_wit 0 0 [.ref o, .int wt] v) (54, [some (.ref o), some (.int wt), some (.int wd3), some (.int k3)], [], w1, 0, 0) := by
      intro n
      induction n with
      | zero => intro w1 wd3 k3 um3 hw7 hf8 hs9 hh2 i3 i4 i5 i6 hm; exact absurd hm (Nat.not_lt_zero _)
      | succ n ih54 =>
        intro w1 wd3 k3 um3 hw7 hf8 hs9 hh2 i3 i4 i5 i6 hm54
        obtain ⟨fs10, g11, e12⟩ := hh2
        have q13 := hx_oq hw7 g11 hG0 (s := 30) rfl
        obtain ⟨x14, e15, a16, b17⟩ := hx_fi (k := 34) (lo := 0) (hi := 16) q13 rfl
        obtain rfl : um3 = x14 := hx_inji e12 e15
        refine ax_go 1 (y := (55, [some (.ref o), some (.int wt), some (.int wd3), some (.int k3)], [.int k3], w1, 0, 0)) rfl trivial ?_
        refine hx_k (l := 57) (m := 71) rfl rfl (by decide) (fun z18 h19 => ?_)
        refine hx_ic_ge (l := 60) rfl rfl (fun h20 => ?_) (fun h20 => ?_)
        · -- 85
          refine ax_go 1 (y := (86, [some (.ref o), some (.int wt), some (.int wd3), some (.int k3)], [.ref o], w1, 0, 0)) rfl trivial ?_
          obtain ⟨p21, e22, hG23⟩ := hx_fr (k := 32) (s := 44) q13 rfl
          refine hx_gf (l := 89) rfl rfl rfl g11 e22 ?_
          refine ax_go 2 (y := (91, [some (.ref o), some (.int wt), some (.int wd3), some (.int k3)], [.ref o, .int wd3, .ref p21], w1, 0, 0)) rfl trivial ?_
          refine hx_gf (l := 94) rfl rfl rfl g11 e12 ?_
          refine hx_mul (l := 95) rfl rfl (fun z24 h25 => ?_)
          rw [show wd3.toInt = 72 by omega] at h25; replace h25 := h25 (by omega) (by omega)
          refine hx_k (l := 97) (m := 71) rfl rfl (by decide) (fun z26 h27 => ?_)
          refine hx_add (l := 98) rfl rfl (fun z28 h29 => ?_)
          replace h29 := h29 (by omega) (by omega)
          refine ax_go 1 (y := (99, [some (.ref o), some (.int wt), some (.int wd3), some (.int k3)], [.int wt, .int z28, .ref p21], w1, 0, 0)) rfl trivial ?_
          obtain ⟨f30, g31, r32⟩ := hx_row hw7 hG23 (s := 44) (kd := 0) (n := 1152) rfl (by decide)
          refine hx_is (s := 44) (l := 100) rfl rfl rfl hw7 hG23 g31 (by omega) (by omega) hx_sg0 (fun w33 f34 g35 e36 o37 n38 hw39 n40 => ?_)
          have hs41 := ty_same_tr hs9 (n40 fz (hx_ok hfz (by decide)))
          have old2 := hf8.1.2.2.1 _ _ hG23 g31
          have mvn : ∀ r k1 : Nat, r < 16 → k1 < 71 → z28.toInt.toNat = 72 * r + k1 → mv_b k1 (f34 z28.toInt.toNat).toInt := by
            intro r k1 hr hk e
            omega
          have hf42 : F9 G F w33 := ⟨FM_l hf8.1 hG23 g35 n38 (ML_up old2 o37 mvn), hF _ _ (n40 prM (by decide)) hf8.2⟩
          refine ax_go 2 (y := (102, [some (.ref o), some (.int wt), some (.int wd3), some (.int k3)], [.ref o, .ref o], w33, 0, 0)) rfl trivial ?_
          refine hx_gf (l := 105) rfl rfl rfl ((n38 _ (hx_ne hG0 hG23 (by decide))).trans g11) e12 ?_
          refine hx_k (l := 106) (m := 1) rfl rfl (by decide) (fun z43 h44 => ?_)
          refine hx_add (l := 107) rfl rfl (fun z45 h46 => ?_)
          replace h46 := h46 (by omega) (by omega)
          refine hx_pf (q := (0, 0, 0, 0, 0, 16)) (s := 30) (l := 110) (v := .int z45) rfl rfl rfl (by decide) rfl rfl rfl hw39 hG0 ((n38 _ (hx_ne hG0 hG23 (by decide))).trans g11) trivial (hx_ti (G := G) (lo := 0) (hi := 16) (by omega) (by omega)) (fun w47 fs48 g49 e50 o51 n52 hw53 n54 => ?_)
          have hs55 := ty_same_tr hs41 (n54 fz (hx_ok hfz (by decide)))
          have hf56 := hFF _ _ (n54 pr_ (by decide)) hf42
          exact ax_ret rfl rfl trivial ⟨none, _, rfl, hw53, hf56, hs55, trivial, trivial⟩
        · -- 60
          refine ax_go 1 (y := (61, [some (.ref o), some (.int wt), some (.int wd3), some (.int k3)], [.ref o], w1, 0, 0)) rfl trivial ?_
          obtain ⟨p57, e58, hG59⟩ := hx_fr (k := 32) (s := 44) q13 rfl
          refine hx_gf (l := 64) rfl rfl rfl g11 e58 ?_
          refine ax_go 2 (y := (66, [some (.ref o), some (.int wt), some (.int wd3), some (.int k3)], [.ref o, .int wd3, .ref p57], w1, 0, 0)) rfl trivial ?_
          refine hx_gf (l := 69) rfl rfl rfl g11 e12 ?_
          refine hx_mul (l := 70) rfl rfl (fun z60 h61 => ?_)
          rw [show wd3.toInt = 72 by omega] at h61; replace h61 := h61 (by omega) (by omega)
          refine ax_go 1 (y := (71, [some (.ref o), some (.int wt), some (.int wd3), some (.int k3)], [.int k3, .int z60, .ref p57], w1, 0, 0)) rfl trivial ?_
          refine hx_add (l := 72) rfl rfl (fun z62 h63 => ?_)
          replace h63 := h63 (by omega) (by omega)
          refine ax_go 1 (y := (73, [some (.ref o), some (.int wt), some (.int wd3), some (.int k3)], [.ref o, .int z62, .ref p57], w1, 0, 0)) rfl trivial ?_
          obtain ⟨p64, e65, hG66⟩ := hx_fr (k := 2) (s := 32) q13 rfl
          refine hx_gf (l := 76) rfl rfl rfl g11 e65 ?_
          refine ax_go 1 (y := (77, [some (.ref o), some (.int wt), some (.int wd3), some (.int k3)], [.int k3, .ref p64, .int z62, .ref p57], w1, 0, 0)) rfl trivial ?_
          obtain ⟨f67, g68, r69⟩ := hx_row hw7 hG66 (s := 32) (kd := 0) (n := 5721) rfl (by decide)
          refine hx_il (l := 78) rfl rfl g68 (by omega) (by omega) (fun z70 h71 => ?_)
          obtain ⟨f72, g73, r74⟩ := hx_row hw7 hG59 (s := 44) (kd := 0) (n := 1152) rfl (by decide)
          refine hx_is (s := 44) (l := 79) rfl rfl rfl hw7 hG59 g73 (by omega) (by omega) hx_sg0 (fun w75 f76 g77 e78 o79 n80 hw81 n82 => ?_)
          have hs83 := ty_same_tr hs9 (n82 fz (hx_ok hfz (by decide)))
          have old2 := hf8.1.2.2.1 _ _ hG59 g73
          have mvn : ∀ r k1 : Nat, r < 16 → k1 < 71 → z62.toInt.toNat = 72 * r + k1 → mv_b k1 (f76 z62.toInt.toNat).toInt := by
            intro r k1 hr hk e
            have kv := ((hf8.1.1 _ _ hG66 g68).1 k3.toInt.toNat (by omega)).1
            rw [e78, h71, show k1 = k3.toInt.toNat by omega]
            exact kv
          have hf84 : F9 G F w75 := ⟨FM_l hf8.1 hG59 g77 n80 (ML_up old2 o79 mvn), hF _ _ (n82 prM (by decide)) hf8.2⟩
          refine hx_iinc (x := k3) (n := 1) (l := 82) rfl rfl rfl (Nat.le_of_ble_eq_true rfl) (by omega) (by omega) (by decide) (fun z85 h86 => ?_)
          change ab_wp ro (ab_Ev ro ab_codes d) 9 false none ab_k_X9_keeps (fun o_1 => ∃ v w1, o_1 = (v, w1, 0, 0) ∧ ty_w sp_ G w1 ∧ (F9 G F) w1 ∧ ty_same G fz w w1 ∧ ck_res G none v ∧ ck_wit 0 0 [.ref o, .int wt] v) (82, [some (.ref o), some (.int wt), some (.int wd3), some (.int z85)], [], w75, 0, 0)
          refine ax_go 1 (y := (54, [some (.ref o), some (.int wt), some (.int wd3), some (.int z85)], [], w75, 0, 0)) rfl trivial ?_
          exact ih54 w75 wd3 z85 um3 hw81 hf84 hs83 ⟨_, ((n80 _ (hx_ne hG0 hG59 (by decide))).trans g11), e12⟩ (by omega) (by omega) (by omega) (by omega) (by omega)
    have ct52 : ∀ (w87 : ab_W) (wd2 : Int32) (u3 : Option Int32) (um2 : Int32), ty_w sp_ G w87 → (F9 G F) w87 → ty_same G fz w w87 → (hx_has w87 o 9 34 (.int um2)) → (wd2.toInt = 72) → (um2.toInt ≤ 15) → ab_wp ro (ab_Ev ro ab_codes d) 9 false none ab_k_X9_keeps (fun o_1 => ∃ v w1, o_1 = (v, w1, 0, 0) ∧ ty_w sp_ G w1 ∧ (F9 G F) w1 ∧ ty_same G fz w w1 ∧ ck_res G none v ∧ ck_wit 0 0 [.ref o, .int wt] v) (52, [some (.ref o), some (.int wt), some (.int wd2), (u3.map Value.int)], [], w87, 0, 0) := by
      intro w87 wd2 u3 um2 hw91 hf92 hs93 hh88 i89 i90
      obtain ⟨fs94, g95, e96⟩ := hh88
      have q97 := hx_oq hw91 g95 hG0 (s := 30) rfl
      obtain ⟨x98, e99, a100, b101⟩ := hx_fi (k := 34) (lo := 0) (hi := 16) q97 rfl
      obtain rfl : um2 = x98 := hx_inji e96 e99
      refine hx_k (l := 53) (m := 0) rfl rfl (by decide) (fun z102 h103 => ?_)
      refine ax_go 1 (y := (54, [some (.ref o), some (.int wt), some (.int wd2), some (.int z102)], [], w87, 0, 0)) rfl trivial ?_
      exact ct54 _ w87 wd2 z102 um2 hw91 hf92 hs93 ⟨_, g95, e96⟩ (by omega) (by omega) (by omega) (by omega) (Nat.lt_succ_self _)
    have ct14 : ∀ (n : Nat) (w104 : ab_W) (wd : Int32) (k : Int32) (um : Int32), ty_w sp_ G w104 → (F9 G F) w104 → ty_same G fz w w104 → (hx_has w104 o 9 34 (.int um)) → (wd.toInt = 72) → (0 ≤ k.toInt) → (k.toInt ≤ 1080) → (um.toInt = 16) → (1081 - k.toInt).toNat < n → ab_wp ro (ab_Ev ro ab_codes d) 9 false none ab_k_X9_keeps (fun o_1 => ∃ v w1, o_1 = (v, w1, 0, 0) ∧ ty_w sp_ G w1 ∧ (F9 G F) w1 ∧ ty_same G fz w w1 ∧ ck_res G none v ∧ ck_wit 0 0 [.ref o, .int wt] v) (14, [some (.ref o), some (.int wt), some (.int wd), some (.int k)], [], w104, 0, 0) := by
      intro n
      induction n with
      | zero => intro w104 wd k um hw110 hf111 hs112 hh105 i106 i107 i108 i109 hm; exact absurd hm (Nat.not_lt_zero _)
      | succ n ih14 =>
        intro w104 wd k um hw110 hf111 hs112 hh105 i106 i107 i108 i109 hm14
        obtain ⟨fs113, g114, e115⟩ := hh105
        have q116 := hx_oq hw110 g114 hG0 (s := 30) rfl
        obtain ⟨x117, e118, a119, b120⟩ := hx_fi (k := 34) (lo := 0) (hi := 16) q116 rfl
        obtain rfl : um = x117 := hx_inji e115 e118
        refine ax_go 1 (y := (15, [some (.ref o), some (.int wt), some (.int wd), some (.int k)], [.int k], w104, 0, 0)) rfl trivial ?_
        refine hx_k (l := 17) (m := 15) rfl rfl (by decide) (fun z121 h122 => ?_)
        refine ax_go 1 (y := (18, [some (.ref o), some (.int wt), some (.int wd), some (.int k)], [.int wd, .int z121, .int k], w104, 0, 0)) rfl trivial ?_
        refine hx_mul (l := 19) rfl rfl (fun z123 h124 => ?_)
        rw [h122] at h124
        replace h124 := h124 (by omega) (by omega)
        refine hx_ic_ge (l := 22) rfl rfl (fun h125 => ?_) (fun h125 => ?_)
        · -- 42
          refine ax_go 2 (y := (44, [some (.ref o), some (.int wt), some (.int wd), some (.int k)], [.ref o, .ref o], w104, 0, 0)) rfl trivial ?_
          refine hx_gf (l := 47) rfl rfl rfl g114 e115 ?_
          refine hx_k (l := 48) (m := 1) rfl rfl (by decide) (fun z126 h127 => ?_)
          refine hx_sub (l := 49) rfl rfl (fun z128 h129 => ?_)
          replace h129 := h129 (by omega) (by omega)
          refine hx_pf (q := (0, 0, 0, 0, 0, 16)) (s := 30) (l := 52) (v := .int z128) rfl rfl rfl (by decide) rfl rfl rfl hw110 hG0 g114 trivial (hx_ti (G := G) (lo := 0) (hi := 16) (by omega) (by omega)) (fun w130 fs131 g132 e133 o134 n135 hw136 n137 => ?_)
          have hs138 := ty_same_tr hs112 (n137 fz (hx_ok hfz (by decide)))
          have hf139 := hFF _ _ (n137 pr_ (by decide)) hf111
          exact ct52 w130 wd (some k) z128 hw136 hf139 hs138 ⟨_, g132, e133⟩ (by omega) (by omega)
        · -- 22
          refine ax_go 1 (y := (23, [some (.ref o), some (.int wt), some (.int wd), some (.int k)], [.ref o], w104, 0, 0)) rfl trivial ?_
          obtain ⟨p140, e141, hG142⟩ := hx_fr (k := 32) (s := 44) q116 rfl
          refine hx_gf (l := 26) rfl rfl rfl g114 e141 ?_
          refine ax_go 2 (y := (28, [some (.ref o), some (.int wt), some (.int wd), some (.int k)], [.ref o, .int k, .ref p140], w104, 0, 0)) rfl trivial ?_
          refine hx_gf (l := 31) rfl rfl rfl g114 e141 ?_
          refine ax_go 2 (y := (33, [some (.ref o), some (.int wt), some (.int wd), some (.int k)], [.int wd, .int k, .ref p140, .int k, .ref p140], w104, 0, 0)) rfl trivial ?_
          refine hx_add (l := 34) rfl rfl (fun z143 h144 => ?_)
          replace h144 := h144 (by omega) (by omega)
          obtain ⟨f145, g146, r147⟩ := hx_row hw110 hG142 (s := 44) (kd := 0) (n := 1152) rfl (by decide)
          refine hx_il (l := 35) rfl rfl g146 (by omega) (by omega) (fun z148 h149 => ?_)
          refine hx_is (s := 44) (l := 36) rfl rfl rfl hw110 hG142 g146 (by omega) (by omega) hx_sg0 (fun w150 f151 g152 e153 o154 n155 hw156 n157 => ?_)
          have hs158 := ty_same_tr hs112 (n157 fz (hx_ok hfz (by decide)))
          have old2 := hf111.1.2.2.1 _ _ hG142 g146
          have mvn : ∀ r k1 : Nat, r < 16 → k1 < 71 → k.toInt.toNat = 72 * r + k1 → mv_b k1 (f151 k.toInt.toNat).toInt := by
            intro r k1 hr hk e
            rw [e153, h149, show z143.toInt.toNat = 72 * (r + 1) + k1 by omega]
            exact old2 (r + 1) (by omega) k1 hk
          have hf159 : F9 G F w150 := ⟨FM_l hf111.1 hG142 g152 n155 (ML_up old2 o154 mvn), hF _ _ (n157 prM (by decide)) hf111.2⟩
          refine hx_iinc (x := k) (n := 1) (l := 39) rfl rfl rfl (Nat.le_of_ble_eq_true rfl) (by omega) (by omega) (by decide) (fun z160 h161 => ?_)
          change ab_wp ro (ab_Ev ro ab_codes d) 9 false none ab_k_X9_keeps (fun o_1 => ∃ v w1, o_1 = (v, w1, 0, 0) ∧ ty_w sp_ G w1 ∧ (F9 G F) w1 ∧ ty_same G fz w w1 ∧ ck_res G none v ∧ ck_wit 0 0 [.ref o, .int wt] v) (39, [some (.ref o), some (.int wt), some (.int wd), some (.int z160)], [], w150, 0, 0)
          refine ax_go 1 (y := (14, [some (.ref o), some (.int wt), some (.int wd), some (.int z160)], [], w150, 0, 0)) rfl trivial ?_
          exact ih14 w150 wd z160 um hw156 hf159 hs158 ⟨_, ((n155 _ (hx_ne hG0 hG142 (by decide))).trans g114), e115⟩ (by omega) (by omega) (by omega) (by omega) (by omega)
    change ab_wp ro (ab_Ev ro ab_codes d) 9 false none ab_k_X9_keeps (fun o_1 => ∃ v w1, o_1 = (v, w1, 0, 0) ∧ ty_w sp_ G w1 ∧ (F9 G F) w1 ∧ ty_same G fz w w1 ∧ ck_res G none v ∧ ck_wit 0 0 [.ref o, .int wt] v) (0, [some (.ref o), some (.int wt), none, none], [], w, 0, 0)
    refine hx_k (l := 2) (m := 72) rfl rfl (by decide) (fun z162 h163 => ?_)
    refine ax_go 2 (y := (4, [some (.ref o), some (.int wt), some (.int z162), none], [.ref o], w, 0, 0)) rfl trivial ?_
    obtain ⟨fs164, g165, _, q166⟩ := hx_obj hw hG0 (s := 30) rfl (by decide)
    obtain ⟨x167, e168, a169, b170⟩ := hx_fi (k := 34) (lo := 0) (hi := 16) q166 rfl
    refine hx_gf (l := 7) rfl rfl rfl g165 e168 ?_
    refine hx_k (l := 9) (m := 16) rfl rfl (by decide) (fun z171 h172 => ?_)
    refine hx_ic_ne (l := 12) rfl rfl (fun h173 => ?_) (fun h173 => ?_)
    · -- 52
      exact ct52 w z162 none x167 hw hf (ty_same_rf w) ⟨_, g165, e168⟩ (by omega) (by omega)
    · -- 12
      refine hx_k (l := 13) (m := 0) rfl rfl (by decide) (fun z174 h175 => ?_)
      refine ax_go 1 (y := (14, [some (.ref o), some (.int wt), some (.int z162), some (.int z174)], [], w, 0, 0)) rfl trivial ?_
      exact ct14 _ w z162 z174 x167 hw hf (ty_same_rf w) ⟨_, g165, e168⟩ (by omega) (by omega) (by omega) (by omega) (Nat.lt_succ_self _)
def fb_X9_undo : List (Nat × Nat) := [(8, 3), (8, 5), (19, 999), (33, 999), (34, 999), (35, 999), (44, 999), (45, 999), (1, 0), (18, 999), (2, 11), (2, 14), (1, 15), (54, 11), (4, 2), (7, 9), (30, 13), (30, 2), (30, 22), (30, 23), (30, 24), (30, 25), (46, 999), (47, 999), (30, 35), (30, 36)]
theorem h_X9_undo {ro : ab_R} {G : Nat → Nat} {fz : List (Nat × Nat)} {F : ab_W → Prop} (hF : ∀ w w', ty_same G prM w w' → F w → F w') (hfz : ∀ q ∈ fz, q ∈ fb_X9_undo) (d : Nat) : ck_ct ro sp_ G (F9 G F) fz (ab_Ev ro ab_codes (d + 2)) 196 [(2, 30, 0)] (some (0, (-2147483648), 2147483647)) 0 0 := by
  have hFF := F9_same hF
  refine ck_hand (d := d + 1) (by decide) (fun as w hw hf has => ?_)
  match as, has with
  | [v0], ⟨h0, _⟩ =>
    obtain ⟨o, rfl, _, hG0⟩ := ty_refn h0 rfl rfl
    replace hG0 : G o = 30 := hG0
    refine ⟨rfl, ?_⟩
    have ct34 : ∀ (n : Nat) (w1 : ab_W) (a1 : Int32) (k : Int32), ty_w sp_ G w1 → (F9 G F) w1 → ty_same G fz w w1 → (0 ≤ k.toInt) → (k.toInt ≤ 71) → (0 ≤ a1.toInt) → (a1.toInt ≤ 1080) → (∃ r : Nat, r < 16 ∧ a1.toInt = 72 * r) → (72 - k.toInt).toNat < n → ab_wp ro (ab_Ev ro ab_codes (d + 1)) 9 false (some .int) ab_k_X9_undo (fun o_1 => ∃ v w1, o_1 = (v, w1, 0, 0) ∧ ty_w sp_ G w1 ∧ (F9 G F) w1 ∧ ty_same G fz w w1 ∧ ck_res G (some (0, (-2147483648), 2147483647)) v ∧ ck_wit 0 0 [.ref o] v) (34, [some (.ref o), some (.int a1), some (.int k)], [], w1, 0, 0) := by
      intro n
      induction n with
      | zero => intro w1 a1 k hw6 hf7 hs8 i2 i3 i4 i5 hr hm; exact absurd hm (Nat.not_lt_zero _)
      | succ n ih34 =>
        intro w1 a1 k hw6 hf7 hs8 i2 i3 i4 i5 hr hm34
        refine ax_go 1 (y := (35, [some (.ref o), some (.int a1), some (.int k)], [.int k], w1, 0, 0)) rfl trivial ?_
        refine hx_k (l := 37) (m := 71) rfl rfl (by decide) (fun z9 h10 => ?_)
        refine hx_ic_ge (l := 40) rfl rfl (fun h11 => ?_) (fun h11 => ?_)
        · -- 60
          refine ax_go 2 (y := (62, [some (.ref o), some (.int a1), some (.int k)], [.ref o, .ref o], w1, 0, 0)) rfl trivial ?_
          obtain ⟨fs12, g13, _, q14⟩ := hx_obj hw6 hG0 (s := 30) rfl (by decide)
          obtain ⟨p15, e16, hG17⟩ := hx_fr (k := 32) (s := 44) q14 rfl
          refine hx_gf (l := 65) rfl rfl rfl g13 e16 ?_
          refine ax_go 1 (y := (66, [some (.ref o), some (.int a1), some (.int k)], [.int a1, .ref p15, .ref o], w1, 0, 0)) rfl trivial ?_
          refine hx_k (l := 68) (m := 71) rfl rfl (by decide) (fun z18 h19 => ?_)
          refine hx_add (l := 69) rfl rfl (fun z20 h21 => ?_)
          replace h21 := h21 (by omega) (by omega)
          obtain ⟨f22, g23, r24⟩ := hx_row hw6 hG17 (s := 44) (kd := 0) (n := 1152) rfl (by decide)
          refine hx_il (l := 70) rfl rfl g23 (by omega) (by omega) (fun z25 h26 => ?_)
          refine hx_ci (l := 73) (as := [.ref o, .int z25]) rfl rfl (hx_iv (j := 125) (n := 1) (o := o) (r := []) rfl rfl g13 rfl) (cc_X9_good_0 (fz := fz) hFF  (fun q hq => (by decide +kernel : ∀ q ∈ fb_X9_undo, q ∈ fr_X9_good_0) q (hfz q hq)) (d + 0)) hw6 hf7 ⟨(hx_tr (G := G) (s := 30) (b := 0) hG0 (by decide)), (ck_top_ok (G := G) z25), trivial⟩ (fun w27 z32 hw28 hf29 m30 a33 b34 u35 => ?_)
          have hs31 := ty_same_tr hs8 m30
          exact ax_ret rfl rfl trivial ⟨some (.int z32), _, rfl, hw28, hf29, hs31, (ck_top_ok (G := G) z32), trivial⟩
        · -- 40
          refine ax_go 1 (y := (41, [some (.ref o), some (.int a1), some (.int k)], [.ref o], w1, 0, 0)) rfl trivial ?_
          obtain ⟨fs36, g37, _, q38⟩ := hx_obj hw6 hG0 (s := 30) rfl (by decide)
          obtain ⟨p39, e40, hG41⟩ := hx_fr (k := 2) (s := 32) q38 rfl
          refine hx_gf (l := 44) rfl rfl rfl g37 e40 ?_
          refine ax_go 2 (y := (46, [some (.ref o), some (.int a1), some (.int k)], [.ref o, .int k, .ref p39], w1, 0, 0)) rfl trivial ?_
          obtain ⟨p42, e43, hG44⟩ := hx_fr (k := 32) (s := 44) q38 rfl
          refine hx_gf (l := 49) rfl rfl rfl g37 e43 ?_
          refine ax_go 2 (y := (51, [some (.ref o), some (.int a1), some (.int k)], [.int k, .int a1, .ref p42, .int k, .ref p39], w1, 0, 0)) rfl trivial ?_
          refine hx_add (l := 52) rfl rfl (fun z45 h46 => ?_)
          replace h46 := h46 (by omega) (by omega)
          obtain ⟨f47, g48, r49⟩ := hx_row hw6 hG44 (s := 44) (kd := 0) (n := 1152) rfl (by decide)
          refine hx_il (l := 53) rfl rfl g48 (by omega) (by omega) (fun z50 h51 => ?_)
          obtain ⟨rr, hr1, hr2⟩ := hr
          have mvq : mv_b k.toInt.toNat z50.toInt := by
            have y := hf7.1.2.2.1 _ _ hG44 g48 rr hr1 k.toInt.toNat (by omega)
            rw [show 72 * rr + k.toInt.toNat = z45.toInt.toNat by omega, ← h51] at y
            exact y
          have mvq2 := mvq
          obtain ⟨mq1, mq2, mq3, mq4⟩ := mvq2
          obtain ⟨f52, g53, r54⟩ := hx_row hw6 hG41 (s := 32) (kd := 0) (n := 5721) rfl (by decide)
          refine hx_is (s := 32) (l := 54) rfl rfl rfl hw6 hG41 g53 (by omega) (by omega) (hx_sg1 (fun _ _ _ => ⟨by omega, by omega⟩) (hx_sg1 (fun _ _ _ => ⟨by omega, by omega⟩) (hx_sg1 (fun _ _ _ => ⟨by omega, by omega⟩) (hx_sg1 (fun _ _ _ => ⟨by omega, by omega⟩) (hx_sg1 (fun _ _ _ => ⟨by omega, by omega⟩) (hx_sg1 (fun _ _ _ => ⟨by omega, by omega⟩) (hx_sg1 (fun _ _ _ => ⟨by omega, by omega⟩) (hx_sg1 (fun _ _ _ => ⟨by omega, by omega⟩) (hx_sg1 (fun _ _ _ => ⟨by omega, by omega⟩) hx_sg0))))))))) (fun w55 f56 g57 e58 o59 n60 hw61 n62 => ?_)
          have hs63 := ty_same_tr hs8 (n62 fz (hx_ok hfz (by decide)))
          have kp65 := hf7.1.1 _ _ hG41 g53
          have hf64 : F9 G F w55 := ⟨FM_k hf7.1 hG41 g57 n60 (KP_up kp65 o59 (by rw [e58]; exact mv_ok mvq (by omega)) (by omega)), hF _ _ (n62 prM (by decide)) hf7.2⟩
          refine hx_iinc (x := k) (n := 1) (l := 57) rfl rfl rfl (Nat.le_of_ble_eq_true rfl) (by omega) (by omega) (by decide) (fun z67 h68 => ?_)
          change ab_wp ro (ab_Ev ro ab_codes (d + 1)) 9 false (some .int) ab_k_X9_undo (fun o_1 => ∃ v w1, o_1 = (v, w1, 0, 0) ∧ ty_w sp_ G w1 ∧ (F9 G F) w1 ∧ ty_same G fz w w1 ∧ ck_res G (some (0, (-2147483648), 2147483647)) v ∧ ck_wit 0 0 [.ref o] v) (57, [some (.ref o), some (.int a1), some (.int z67)], [], w55, 0, 0)
          refine ax_go 1 (y := (34, [some (.ref o), some (.int a1), some (.int z67)], [], w55, 0, 0)) rfl trivial ?_
          exact ih34 w55 a1 z67 hw61 hf64 hs63 (by omega) (by omega) (by omega) (by omega) ⟨rr, hr1, hr2⟩ (by omega)
    change ab_wp ro (ab_Ev ro ab_codes (d + 1)) 9 false (some .int) ab_k_X9_undo (fun o_1 => ∃ v w1, o_1 = (v, w1, 0, 0) ∧ ty_w sp_ G w1 ∧ (F9 G F) w1 ∧ ty_same G fz w w1 ∧ ck_res G (some (0, (-2147483648), 2147483647)) v ∧ ck_wit 0 0 [.ref o] v) (0, [some (.ref o), none, none], [], w, 0, 0)
    refine ax_go 1 (y := (1, [some (.ref o), none, none], [.ref o], w, 0, 0)) rfl trivial ?_
    obtain ⟨fs69, g70, _, q71⟩ := hx_obj hw hG0 (s := 30) rfl (by decide)
    obtain ⟨x72, e73, a74, b75⟩ := hx_fi (k := 34) (lo := 0) (hi := 16) q71 rfl
    refine hx_gf (l := 4) rfl rfl rfl g70 e73 ?_
    refine hx_if_ne (l := 7) rfl rfl (fun h76 => ?_) (fun h76 => ?_)
    · -- 14
      refine ax_go 2 (y := (16, [some (.ref o), none, none], [.ref o, .ref o], w, 0, 0)) rfl trivial ?_
      refine hx_gf (l := 19) rfl rfl rfl g70 e73 ?_
      refine hx_k (l := 20) (m := 1) rfl rfl (by decide) (fun z77 h78 => ?_)
      refine hx_sub (l := 21) rfl rfl (fun z79 h80 => ?_)
      replace h80 := h80 (by omega) (by omega)
      refine hx_pf (q := (0, 0, 0, 0, 0, 16)) (s := 30) (l := 24) (v := .int z79) rfl rfl rfl (by decide) rfl rfl rfl hw hG0 g70 trivial (hx_ti (G := G) (lo := 0) (hi := 16) (by omega) (by omega)) (fun w81 fs82 g83 e84 o85 n86 hw87 n88 => ?_)
      have hs89 := ty_same_tr (ty_same_rf w) (n88 fz (hx_ok hfz (by decide)))
      have hf90 := hFF _ _ (n88 pr_ (by decide)) hf
      refine hx_k (l := 26) (m := 72) rfl rfl (by decide) (fun z91 h92 => ?_)
      refine ax_go 1 (y := (27, [some (.ref o), none, none], [.ref o, .int z91], w81, 0, 0)) rfl trivial ?_
      refine hx_gf (l := 30) rfl rfl rfl g83 e84 ?_
      refine hx_mul (l := 31) rfl rfl (fun z93 h94 => ?_)
      rw [h92] at h94
      replace h94 := h94 (by omega) (by omega)
      refine ax_go 1 (y := (32, [some (.ref o), some (.int z93), none], [], w81, 0, 0)) rfl trivial ?_
      refine hx_k (l := 33) (m := 0) rfl rfl (by decide) (fun z95 h96 => ?_)
      refine ax_go 1 (y := (34, [some (.ref o), some (.int z93), some (.int z95)], [], w81, 0, 0)) rfl trivial ?_
      exact ct34 _ w81 z93 z95 hw87 hf90 hs89 (by omega) (by omega) (by omega) (by omega) ⟨(z93.toInt / 72).toNat, by omega, by omega⟩ (Nat.lt_succ_self _)
    · -- 7
      refine ax_go 1 (y := (8, [some (.ref o), none, none], [.ref o], w, 0, 0)) rfl trivial ?_
      refine hx_k (l := 10) (m := (-3)) rfl rfl (by decide) (fun z97 h98 => ?_)
      refine hx_ci (l := 13) (as := [.ref o, .int z97]) rfl rfl (hx_iv (j := 124) (n := 1) (o := o) (r := []) rfl rfl g70 rfl) (cc_X9_refuses_0 (fz := fz) hFF  (fun q hq => (by decide +kernel : ∀ q ∈ fb_X9_undo, q ∈ fr_X9_refuses_0) q (hfz q hq)) (d + 0)) hw hf ⟨(hx_tr (G := G) (s := 30) (b := 0) hG0 (by decide)), (hx_ti (G := G) (lo := (-6)) (hi := (-1)) (by omega) (by omega)), trivial⟩ (fun w99 z104 hw100 hf101 m102 a105 b106 u107 => ?_)
      have hs103 := ty_same_tr (ty_same_rf w) m102
      exact ax_ret rfl rfl trivial ⟨some (.int z104), _, rfl, hw100, hf101, hs103, (ck_top_ok (G := G) z104), trivial⟩
