/-! walks by program: the reference -/
def fb_hp_X9_lies : List (Nat × Nat) := [(8, 3), (8, 5), (19, 999), (32, 999), (33, 999), (34, 999), (35, 999), (44, 999), (45, 999), (1, 0), (18, 999), (2, 11), (2, 14), (1, 15), (54, 11), (4, 2), (7, 9), (30, 13), (30, 34), (30, 2), (30, 22), (30, 23), (30, 24), (30, 25), (46, 999), (47, 999), (30, 35), (30, 36), (7, 0), (24, 999), (37, 999), (30, 4), (30, 5), (30, 6), (30, 8), (30, 9), (30, 10), (30, 11), (30, 14), (30, 15), (30, 16), (30, 17), (30, 18), (30, 19), (30, 20), (30, 21), (39, 999), (40, 999), (41, 999), (30, 30), (30, 42), (30, 43), (30, 44), (1, 1), (1, 3), (1, 10), (1, 13), (8, 0), (30, 49), (2, 15), (8, 1)]
set_option maxHeartbeats 8000000 in
theorem hp_X9_lies {ro : ab_R} {G : Nat → Nat} {fz : List (Nat × Nat)} {F : ab_W → Prop} (hF : ∀ w w', ty_same G pr_ w w' → F w → F w') (hfz : ∀ q ∈ fz, q ∈ fb_hp_X9_lies) (d : Nat) : hx_ct ro sp_ G F fz (ab_Ev ro ab_codes (d + 1)) 120 [(0, (-2147483648), 2147483647), (0, (-2147483648), 2147483647), (0, (-2147483648), 2147483647)] (some (0, 0, 1)) (fun _ _ => True) (fun as w v w1 => w1 = w ∧ ∀ p a b z : Int32, as = [.int p, .int a, .int b] → v = some (.int z) → ((z.toInt ≠ 0 → a.toInt ≤ p.toInt ∧ p.toInt ≤ b.toInt) ∧ (a.toInt ≤ p.toInt ∧ p.toInt ≤ b.toInt → z.toInt = 1))) := by
  refine hx_hand (d := d + 0) (by decide) (fun as w hw hf has hP => ?_)
  match as, has with
  | [v0, v1, v2], ⟨h0, h1, h2, _⟩ =>
    obtain ⟨p, rfl, hl0, hh0⟩ := ty_int h0 rfl
    replace hl0 : ((-2147483648) : Int) ≤ p.toInt := hl0
    replace hh0 : p.toInt ≤ 2147483647 := hh0
    obtain ⟨a, rfl, hl1, hh1⟩ := ty_int h1 rfl
    replace hl1 : ((-2147483648) : Int) ≤ a.toInt := hl1
    replace hh1 : a.toInt ≤ 2147483647 := hh1
    obtain ⟨b, rfl, hl2, hh2⟩ := ty_int h2 rfl
    replace hl2 : ((-2147483648) : Int) ≤ b.toInt := hl2
    replace hh2 : b.toInt ≤ 2147483647 := hh2
    refine ⟨rfl, ?_⟩
    change ab_wp ro (ab_Ev ro ab_codes d) 9 false (some .boolean) ab_k_X9_lies (fun o_1 => ∃ v w1, o_1 = (v, w1, 0, 0) ∧ ty_w sp_ G w1 ∧ F w1 ∧ ty_same G fz w w1 ∧ ck_res G (some (0, 0, 1)) v ∧ (fun as w v w1 => w1 = w ∧ ∀ p a b z : Int32, as = [.int p, .int a, .int b] → v = some (.int z) → ((z.toInt ≠ 0 → a.toInt ≤ p.toInt ∧ p.toInt ≤ b.toInt) ∧ (a.toInt ≤ p.toInt ∧ p.toInt ≤ b.toInt → z.toInt = 1))) ([.int p, .int a, .int b] : List Value) w v w1) (0, [some (.int p), some (.int a), some (.int b)], [], w, 0, 0)
    refine ax_go 2 (y := (2, [some (.int p), some (.int a), some (.int b)], [.int a, .int p], w, 0, 0)) rfl trivial ?_
    refine hx_ic_lt (l := 5) rfl rfl (fun h1 => ?_) (fun h1 => ?_)
    · -- 14
      refine hx_k (l := 15) (m := 0) rfl rfl (by decide) (fun z2 h3 => ?_)
      exact ax_ret rfl rfl ⟨hx_01 (by omega) (by omega), trivial⟩ ⟨some (.int z2), _, rfl, hw, hf, (ty_same_rf w), (hx_ti (G := G) (lo := 0) (hi := 1) (by omega) (by omega)), ⟨rfl, fun p1 q1 r1 z1 h1 h2 => by cases h1; cases h2; exact ⟨fun hz => ⟨by omega, by omega⟩, fun hz => by omega⟩⟩⟩
    · -- 5
      refine ax_go 2 (y := (7, [some (.int p), some (.int a), some (.int b)], [.int b, .int p], w, 0, 0)) rfl trivial ?_
      refine hx_ic_gt (l := 10) rfl rfl (fun h4 => ?_) (fun h4 => ?_)
      · -- 14
        refine hx_k (l := 15) (m := 0) rfl rfl (by decide) (fun z5 h6 => ?_)
        exact ax_ret rfl rfl ⟨hx_01 (by omega) (by omega), trivial⟩ ⟨some (.int z5), _, rfl, hw, hf, (ty_same_rf w), (hx_ti (G := G) (lo := 0) (hi := 1) (by omega) (by omega)), ⟨rfl, fun p1 q1 r1 z1 h1 h2 => by cases h1; cases h2; exact ⟨fun hz => ⟨by omega, by omega⟩, fun hz => by omega⟩⟩⟩
      · -- 10
        refine hx_k (l := 11) (m := 1) rfl rfl (by decide) (fun z7 h8 => ?_)
        refine ax_go 1 (y := (15, [some (.int p), some (.int a), some (.int b)], [.int z7], w, 0, 0)) rfl trivial ?_
        exact ax_ret rfl rfl ⟨hx_01 (by omega) (by omega), trivial⟩ ⟨some (.int z7), _, rfl, hw, hf, (ty_same_rf w), (hx_ti (G := G) (lo := 0) (hi := 1) (by omega) (by omega)), ⟨rfl, fun p1 q1 r1 z1 h1 h2 => by cases h1; cases h2; exact ⟨fun hz => ⟨by omega, by omega⟩, fun hz => by omega⟩⟩⟩
def fb_hp_X9_lesser : List (Nat × Nat) := [(8, 3), (8, 5), (19, 999), (32, 999), (33, 999), (34, 999), (35, 999), (44, 999), (45, 999), (1, 0), (18, 999), (2, 11), (2, 14), (1, 15), (54, 11), (4, 2), (7, 9), (30, 13), (30, 34), (30, 2), (30, 22), (30, 23), (30, 24), (30, 25), (46, 999), (47, 999), (30, 35), (30, 36), (7, 0), (24, 999), (37, 999), (30, 4), (30, 5), (30, 6), (30, 8), (30, 9), (30, 10), (30, 11), (30, 14), (30, 15), (30, 16), (30, 17), (30, 18), (30, 19), (30, 20), (30, 21), (39, 999), (40, 999), (41, 999), (30, 30), (30, 42), (30, 43), (30, 44), (1, 1), (1, 3), (1, 10), (1, 13), (8, 0), (30, 49), (2, 15), (8, 1)]
set_option maxHeartbeats 8000000 in
theorem hp_X9_lesser {ro : ab_R} {G : Nat → Nat} {fz : List (Nat × Nat)} {F : ab_W → Prop} (hF : ∀ w w', ty_same G pr_ w w' → F w → F w') (hfz : ∀ q ∈ fz, q ∈ fb_hp_X9_lesser) (d : Nat) : hx_ct ro sp_ G F fz (ab_Ev ro ab_codes (d + 1)) 121 [(0, (-2147483648), 2147483647), (0, (-2147483648), 2147483647)] (some (0, (-2147483648), 2147483647)) (fun _ _ => True) (fun as w v w1 => w1 = w ∧ ∀ a b z : Int32, as = [.int a, .int b] → v = some (.int z) → ((a.toInt ≤ b.toInt → z.toInt = a.toInt) ∧ (b.toInt < a.toInt → z.toInt = b.toInt))) := by
  refine hx_hand (d := d + 0) (by decide) (fun as w hw hf has hP => ?_)
  match as, has with
  | [v0, v1], ⟨h0, h1, _⟩ =>
    obtain ⟨a, rfl, hl0, hh0⟩ := ty_int h0 rfl
    replace hl0 : ((-2147483648) : Int) ≤ a.toInt := hl0
    replace hh0 : a.toInt ≤ 2147483647 := hh0
    obtain ⟨b, rfl, hl1, hh1⟩ := ty_int h1 rfl
    replace hl1 : ((-2147483648) : Int) ≤ b.toInt := hl1
    replace hh1 : b.toInt ≤ 2147483647 := hh1
    refine ⟨rfl, ?_⟩
    change ab_wp ro (ab_Ev ro ab_codes d) 9 false (some .int) ab_k_X9_lesser (fun o_1 => ∃ v w1, o_1 = (v, w1, 0, 0) ∧ ty_w sp_ G w1 ∧ F w1 ∧ ty_same G fz w w1 ∧ ck_res G (some (0, (-2147483648), 2147483647)) v ∧ (fun as w v w1 => w1 = w ∧ ∀ a b z : Int32, as = [.int a, .int b] → v = some (.int z) → ((a.toInt ≤ b.toInt → z.toInt = a.toInt) ∧ (b.toInt < a.toInt → z.toInt = b.toInt))) ([.int a, .int b] : List Value) w v w1) (0, [some (.int a), some (.int b)], [], w, 0, 0)
    refine ax_go 2 (y := (2, [some (.int a), some (.int b)], [.int b, .int a], w, 0, 0)) rfl trivial ?_
    refine hx_ic_ge (l := 5) rfl rfl (fun h1 => ?_) (fun h1 => ?_)
    · -- 9
      refine ax_go 1 (y := (10, [some (.int a), some (.int b)], [.int b], w, 0, 0)) rfl trivial ?_
      exact ax_ret rfl rfl trivial ⟨some (.int b), _, rfl, hw, hf, (ty_same_rf w), (ck_top_ok (G := G) b), ⟨rfl, fun p1 q1 z1 h1 h2 => by cases h1; cases h2; exact ⟨fun hz => by omega, fun hz => by omega⟩⟩⟩
    · -- 5
      refine ax_go 2 (y := (10, [some (.int a), some (.int b)], [.int a], w, 0, 0)) rfl trivial ?_
      exact ax_ret rfl rfl trivial ⟨some (.int a), _, rfl, hw, hf, (ty_same_rf w), (ck_top_ok (G := G) a), ⟨rfl, fun p1 q1 z1 h1 h2 => by cases h1; cases h2; exact ⟨fun hz => by omega, fun hz => by omega⟩⟩⟩
def fb_hp_X9_greater : List (Nat × Nat) := [(8, 3), (8, 5), (19, 999), (32, 999), (33, 999), (34, 999), (35, 999), (44, 999), (45, 999), (1, 0), (18, 999), (2, 11), (2, 14), (1, 15), (54, 11), (4, 2), (7, 9), (30, 13), (30, 34), (30, 2), (30, 22), (30, 23), (30, 24), (30, 25), (46, 999), (47, 999), (30, 35), (30, 36), (7, 0), (24, 999), (37, 999), (30, 4), (30, 5), (30, 6), (30, 8), (30, 9), (30, 10), (30, 11), (30, 14), (30, 15), (30, 16), (30, 17), (30, 18), (30, 19), (30, 20), (30, 21), (39, 999), (40, 999), (41, 999), (30, 30), (30, 42), (30, 43), (30, 44), (1, 1), (1, 3), (1, 10), (1, 13), (8, 0), (30, 49), (2, 15), (8, 1)]
set_option maxHeartbeats 8000000 in
theorem hp_X9_greater {ro : ab_R} {G : Nat → Nat} {fz : List (Nat × Nat)} {F : ab_W → Prop} (hF : ∀ w w', ty_same G pr_ w w' → F w → F w') (hfz : ∀ q ∈ fz, q ∈ fb_hp_X9_greater) (d : Nat) : hx_ct ro sp_ G F fz (ab_Ev ro ab_codes (d + 1)) 122 [(0, (-2147483648), 2147483647), (0, (-2147483648), 2147483647)] (some (0, (-2147483648), 2147483647)) (fun _ _ => True) (fun as w v w1 => w1 = w ∧ ∀ a b z : Int32, as = [.int a, .int b] → v = some (.int z) → ((b.toInt ≤ a.toInt → z.toInt = a.toInt) ∧ (a.toInt < b.toInt → z.toInt = b.toInt))) := by
  refine hx_hand (d := d + 0) (by decide) (fun as w hw hf has hP => ?_)
  match as, has with
  | [v0, v1], ⟨h0, h1, _⟩ =>
    obtain ⟨a, rfl, hl0, hh0⟩ := ty_int h0 rfl
    replace hl0 : ((-2147483648) : Int) ≤ a.toInt := hl0
    replace hh0 : a.toInt ≤ 2147483647 := hh0
    obtain ⟨b, rfl, hl1, hh1⟩ := ty_int h1 rfl
    replace hl1 : ((-2147483648) : Int) ≤ b.toInt := hl1
    replace hh1 : b.toInt ≤ 2147483647 := hh1
    refine ⟨rfl, ?_⟩
    change ab_wp ro (ab_Ev ro ab_codes d) 9 false (some .int) ab_k_X9_greater (fun o_1 => ∃ v w1, o_1 = (v, w1, 0, 0) ∧ ty_w sp_ G w1 ∧ F w1 ∧ ty_same G fz w w1 ∧ ck_res G (some (0, (-2147483648), 2147483647)) v ∧ (fun as w v w1 => w1 = w ∧ ∀ a b z : Int32, as = [.int a, .int b] → v = some (.int z) → ((b.toInt ≤ a.toInt → z.toInt = a.toInt) ∧ (a.toInt < b.toInt → z.toInt = b.toInt))) ([.int a, .int b] : List Value) w v w1) (0, [some (.int a), some (.int b)], [], w, 0, 0)
    refine ax_go 2 (y := (2, [some (.int a), some (.int b)], [.int b, .int a], w, 0, 0)) rfl trivial ?_
    refine hx_ic_le (l := 5) rfl rfl (fun h1 => ?_) (fun h1 => ?_)
    · -- 9
      refine ax_go 1 (y := (10, [some (.int a), some (.int b)], [.int b], w, 0, 0)) rfl trivial ?_
      exact ax_ret rfl rfl trivial ⟨some (.int b), _, rfl, hw, hf, (ty_same_rf w), (ck_top_ok (G := G) b), ⟨rfl, fun p1 q1 z1 h1 h2 => by cases h1; cases h2; exact ⟨fun hz => by omega, fun hz => by omega⟩⟩⟩
    · -- 5
      refine ax_go 2 (y := (10, [some (.int a), some (.int b)], [.int a], w, 0, 0)) rfl trivial ?_
      exact ax_ret rfl rfl trivial ⟨some (.int a), _, rfl, hw, hf, (ty_same_rf w), (ck_top_ok (G := G) a), ⟨rfl, fun p1 q1 z1 h1 h2 => by cases h1; cases h2; exact ⟨fun hz => by omega, fun hz => by omega⟩⟩⟩
def fb_hp_X9_isParish : List (Nat × Nat) := [(8, 3), (8, 5), (19, 999), (32, 999), (33, 999), (34, 999), (35, 999), (44, 999), (45, 999), (1, 0), (18, 999), (2, 11), (2, 14), (1, 15), (54, 11), (4, 2), (7, 9), (30, 13), (30, 34), (30, 2), (30, 22), (30, 23), (30, 24), (30, 25), (46, 999), (47, 999), (30, 35), (30, 36), (7, 0), (24, 999), (37, 999), (30, 4), (30, 5), (30, 6), (30, 8), (30, 9), (30, 10), (30, 11), (30, 14), (30, 15), (30, 16), (30, 17), (30, 18), (30, 19), (30, 20), (30, 21), (39, 999), (40, 999), (41, 999), (30, 30), (30, 42), (30, 43), (30, 44), (1, 1), (1, 3), (1, 10), (1, 13), (8, 0), (30, 49), (2, 15), (8, 1)]
set_option maxHeartbeats 8000000 in
theorem hp_X9_isParish {ro : ab_R} {G : Nat → Nat} {fz : List (Nat × Nat)} {F : ab_W → Prop} (hF : ∀ w w', smt G w w' → F w → F w') (hfz : ∀ q ∈ fz, q ∈ fb_hp_X9_isParish) (d : Nat) : hx_ct ro sp_ G (F9 G F) fz (ab_Ev ro ab_codes (d + 2)) 133 [(2, 30, 0), (0, (-2147483648), 2147483647)] (some (0, 0, 1)) (fun _ _ => True) (fun as w v w1 => w1 = w ∧ ∀ (o : Nat) (p : Int32) (q : Nat) (f : Nat → Int32) (z : Int32), as = [.ref o, .int p] → hx_has w o 9 2 (.ref q) → w[q]? = some (.inl (0, 5721, .inl f)) → v = some (.int z) → ((z.toInt ≠ 0 → 0 ≤ p.toInt ∧ p.toInt < (f 110).toInt) ∧ (0 ≤ p.toInt ∧ p.toInt < (f 110).toInt → z.toInt = 1))) := by
  have hFF := F9_same hF
  refine hx_hand (d := d + 1) (by decide) (fun as w hw hf has hP => ?_)
  match as, has with
  | [v0, v1], ⟨h0, h1, _⟩ =>
    obtain ⟨o, rfl, _, hG0⟩ := ty_refn h0 rfl rfl
    replace hG0 : G o = 30 := hG0
    obtain ⟨p, rfl, hl1, hh1⟩ := ty_int h1 rfl
    replace hl1 : ((-2147483648) : Int) ≤ p.toInt := hl1
    replace hh1 : p.toInt ≤ 2147483647 := hh1
    refine ⟨rfl, ?_⟩
    change ab_wp ro (ab_Ev ro ab_codes (d + 1)) 9 false (some .boolean) ab_k_X9_isParish (fun o_1 => ∃ v w1, o_1 = (v, w1, 0, 0) ∧ ty_w sp_ G w1 ∧ (F9 G F) w1 ∧ ty_same G fz w w1 ∧ ck_res G (some (0, 0, 1)) v ∧ (fun as w v w1 => w1 = w ∧ ∀ (o : Nat) (p : Int32) (q : Nat) (f : Nat → Int32) (z : Int32), as = [.ref o, .int p] → hx_has w o 9 2 (.ref q) → w[q]? = some (.inl (0, 5721, .inl f)) → v = some (.int z) → ((z.toInt ≠ 0 → 0 ≤ p.toInt ∧ p.toInt < (f 110).toInt) ∧ (0 ≤ p.toInt ∧ p.toInt < (f 110).toInt → z.toInt = 1))) ([.ref o, .int p] : List Value) w v w1) (0, [some (.ref o), some (.int p)], [], w, 0, 0)
    refine ax_go 1 (y := (1, [some (.ref o), some (.int p)], [.int p], w, 0, 0)) rfl trivial ?_
    refine hx_k (l := 2) (m := 0) rfl rfl (by decide) (fun z1 h2 => ?_)
    refine ax_go 1 (y := (3, [some (.ref o), some (.int p)], [.ref o, .int z1, .int p], w, 0, 0)) rfl trivial ?_
    obtain ⟨fs3, g4, -, q5⟩ := hx_obj hw hG0 (s := 30) rfl (by decide)
    obtain ⟨p6, e7, hG8⟩ := hx_fr (k := 2) (s := 32) q5 rfl
    refine hx_gf (l := 6) rfl rfl rfl g4 e7 ?_
    refine hx_k (l := 8) (m := 110) rfl rfl (by decide) (fun z9 h10 => ?_)
    obtain ⟨f11, g12, r13⟩ := hx_row hw hG8 (s := 32) (kd := 0) (n := 5721) rfl (by decide)
    refine hx_il (l := 9) rfl rfl g12 (by omega) (by omega) (fun z14 h15 => ?_)
    have b16 := ((hf.1.1 _ _ hG8 g12).1 z9.toInt.toNat (by omega)).2.2.2.2.1 (by omega)
    rw [← h15] at b16
    rw [show z9.toInt.toNat = 110 by omega] at h15
    replace h15 := congrArg Int32.toInt h15
    refine hx_k (l := 10) (m := 1) rfl rfl (by decide) (fun z17 h18 => ?_)
    refine hx_sub (l := 11) rfl rfl (fun z19 h20 => ?_)
    replace h20 := h20 (by omega) (by omega)
    refine hx_pi (l := 14) (as := [.int p, .int z1, .int z19]) rfl rfl rfl (hp_X9_lies (fz := fz) hFF (fun q hq => (by decide +kernel : ∀ q ∈ fb_hp_X9_isParish, q ∈ fb_hp_X9_lies) q (hfz q hq)) (d + 0)) hw hf ⟨(ck_top_ok (G := G) p), (ck_top_ok (G := G) z1), (ck_top_ok (G := G) z19), trivial⟩ trivial (fun w21 z26 hw22 hf23 m24 a27 b28 u29 => ?_)
    rw [u29.1]
    have u30 := u29.2 _ _ _ _ rfl rfl
    clear u29
    exact ax_ret rfl rfl ⟨hx_01 (by omega) (by omega), trivial⟩ ⟨some (.int z26), _, rfl, hw, hf, (ty_same_rf w), (hx_ti (G := G) (lo := 0) (hi := 1) (by omega) (by omega)), ⟨rfl, fun o1 p1 q1 f1 z1 h1 h2 h3 h4 => by cases h1; cases h4; obtain ⟨fs1, g1, e1⟩ := h2; obtain rfl := hx_inj g4 g1; cases e7.symm.trans e1; obtain rfl := hx_injr g12 h3; exact ⟨fun hz => ⟨by omega, by omega⟩, fun hz => by omega⟩⟩⟩
def fb_X9_isParish : List (Nat × Nat) := [(8, 3), (8, 5), (19, 999), (32, 999), (33, 999), (34, 999), (35, 999), (44, 999), (45, 999), (1, 0), (18, 999), (2, 11), (2, 14), (1, 15), (54, 11), (4, 2), (7, 9), (30, 13), (30, 34), (30, 2), (30, 22), (30, 23), (30, 24), (30, 25), (46, 999), (47, 999), (30, 35), (30, 36), (7, 0), (24, 999), (37, 999), (30, 4), (30, 5), (30, 6), (30, 8), (30, 9), (30, 10), (30, 11), (30, 14), (30, 15), (30, 16), (30, 17), (30, 18), (30, 19), (30, 20), (30, 21), (39, 999), (40, 999), (41, 999), (30, 30), (30, 42), (30, 43), (30, 44), (1, 1), (1, 3), (1, 10), (1, 13), (8, 0), (30, 49), (2, 15), (8, 1)]
set_option maxHeartbeats 8000000 in
theorem h_X9_isParish {ro : ab_R} {G : Nat → Nat} {fz : List (Nat × Nat)} {F : ab_W → Prop} (hF : ∀ w w', smt G w w' → F w → F w') (hfz : ∀ q ∈ fz, q ∈ fb_X9_isParish) (d : Nat) : ck_ct ro sp_ G (F9 G F) fz (ab_Ev ro ab_codes (d + 2)) 133 [(2, 30, 0), (0, (-2147483648), 2147483647)] (some (0, 0, 1)) 2 10000000001009 := by
  have hFF := F9_same hF
  refine ck_hand (d := d + 1) (by decide) (fun as w hw hf has => ?_)
  match as, has with
  | [v0, v1], ⟨h0, h1, _⟩ =>
    obtain ⟨o, rfl, _, hG0⟩ := ty_refn h0 rfl rfl
    replace hG0 : G o = 30 := hG0
    obtain ⟨p, rfl, hl1, hh1⟩ := ty_int h1 rfl
    replace hl1 : ((-2147483648) : Int) ≤ p.toInt := hl1
    replace hh1 : p.toInt ≤ 2147483647 := hh1
    refine ⟨rfl, ?_⟩
    change ab_wp ro (ab_Ev ro ab_codes (d + 1)) 9 false (some .boolean) ab_k_X9_isParish (fun o_1 => ∃ v w1, o_1 = (v, w1, 0, 0) ∧ ty_w sp_ G w1 ∧ (F9 G F) w1 ∧ ty_same G fz w w1 ∧ ck_res G (some (0, 0, 1)) v ∧ ck_wit 2 10000000001009 [.ref o, .int p] v) (0, [some (.ref o), some (.int p)], [], w, 0, 0)
    refine ax_go 1 (y := (1, [some (.ref o), some (.int p)], [.int p], w, 0, 0)) rfl trivial ?_
    refine hx_k (l := 2) (m := 0) rfl rfl (by decide) (fun z1 h2 => ?_)
    refine ax_go 1 (y := (3, [some (.ref o), some (.int p)], [.ref o, .int z1, .int p], w, 0, 0)) rfl trivial ?_
    obtain ⟨fs3, g4, -, q5⟩ := hx_obj hw hG0 (s := 30) rfl (by decide)
    obtain ⟨p6, e7, hG8⟩ := hx_fr (k := 2) (s := 32) q5 rfl
    refine hx_gf (l := 6) rfl rfl rfl g4 e7 ?_
    refine hx_k (l := 8) (m := 110) rfl rfl (by decide) (fun z9 h10 => ?_)
    obtain ⟨f11, g12, r13⟩ := hx_row hw hG8 (s := 32) (kd := 0) (n := 5721) rfl (by decide)
    refine hx_il (l := 9) rfl rfl g12 (by omega) (by omega) (fun z14 h15 => ?_)
    have b16 := ((hf.1.1 _ _ hG8 g12).1 z9.toInt.toNat (by omega)).2.2.2.2.1 (by omega)
    rw [← h15] at b16
    refine hx_k (l := 10) (m := 1) rfl rfl (by decide) (fun z17 h18 => ?_)
    refine hx_sub (l := 11) rfl rfl (fun z19 h20 => ?_)
    replace h20 := h20 (by omega) (by omega)
    refine hx_pi (l := 14) (as := [.int p, .int z1, .int z19]) rfl rfl rfl (hp_X9_lies (fz := fz) hFF (fun q hq => (by decide +kernel : ∀ q ∈ fb_X9_isParish, q ∈ fb_hp_X9_lies) q (hfz q hq)) (d + 0)) hw hf ⟨(ck_top_ok (G := G) p), (ck_top_ok (G := G) z1), (ck_top_ok (G := G) z19), trivial⟩ trivial (fun w21 z26 hw22 hf23 m24 a27 b28 u29 => ?_)
    rw [u29.1]
    have u30 := u29.2 _ _ _ _ rfl rfl
    clear u29
    exact ax_ret rfl rfl ⟨hx_01 (by omega) (by omega), trivial⟩ ⟨some (.int z26), _, rfl, hw, hf, (ty_same_rf w), (hx_ti (G := G) (lo := 0) (hi := 1) (by omega) (by omega)), (hx_mkw (a := 1) (lo := 0) (hi := 9) rfl rfl (fun hz => ⟨by omega, by omega⟩))⟩
def fb_hp_X9_laysAside : List (Nat × Nat) := [(8, 3), (8, 5), (19, 999), (32, 999), (33, 999), (34, 999), (44, 999), (45, 999), (1, 0), (18, 999), (2, 11), (2, 14), (1, 15), (54, 11), (4, 2), (7, 9), (30, 13), (30, 34), (30, 2), (30, 22), (30, 23), (30, 24), (30, 25), (46, 999), (47, 999), (30, 35), (30, 36), (7, 0), (24, 999), (37, 999), (30, 4), (30, 5), (30, 6), (30, 8), (30, 9), (30, 10), (30, 11), (30, 14), (30, 15), (30, 16), (30, 17), (30, 18), (30, 19), (30, 20), (30, 21), (39, 999), (40, 999), (41, 999), (30, 30), (30, 42), (30, 43), (30, 44), (1, 1), (1, 3), (1, 10), (1, 13), (8, 0), (30, 49), (2, 15), (8, 1)]
set_option maxHeartbeats 8000000 in
theorem hp_X9_laysAside {ro : ab_R} {G : Nat → Nat} {fz : List (Nat × Nat)} {F : ab_W → Prop} (hF : ∀ w w', smt G w w' → F w → F w') (hfz : ∀ q ∈ fz, q ∈ fb_hp_X9_laysAside) (d : Nat) : hx_ct ro sp_ G (F9 G F) fz (ab_Ev ro ab_codes (d + 1)) 129 [(2, 30, 0), (0, 0, 1)] none (fun _ _ => True) (fun as w v w1 => ∀ (o : Nat) (k : Int32) (pk pa : Nat) (f : Nat → Int32), as = [.ref o, .int k] → hx_has w o 9 2 (.ref pk) → hx_has w o 9 5 (.ref pa) → w[pk]? = some (.inl (0, 5721, .inl f)) → hx_has w1 o 9 2 (.ref pk) ∧ hx_has w1 o 9 5 (.ref pa) ∧ w1[pk]? = some (.inl (0, 5721, .inl f)) ∧ ∃ g, w1[pa]? = some (.inl (0, 142, .inl g)) ∧ ∀ j : Nat, j < 71 → g (71 * k.toInt.toNat + j) = f j) := by
  have hFF := F9_same hF
  refine hx_hand (d := d + 0) (by decide) (fun as w hw hf has hP => ?_)
  match as, has with
  | [v0, v1], ⟨h0, h1, _⟩ =>
    obtain ⟨o, rfl, _, hG0⟩ := ty_refn h0 rfl rfl
    replace hG0 : G o = 30 := hG0
    obtain ⟨k, rfl, hl1, hh1⟩ := ty_int h1 rfl
    replace hl1 : (0 : Int) ≤ k.toInt := hl1
    replace hh1 : k.toInt ≤ 1 := hh1
    refine ⟨rfl, ?_⟩
    obtain ⟨fs1, g2, -, q3⟩ := hx_obj hw hG0 (s := 30) rfl (by decide)
    obtain ⟨pk, e_pk, hG_pk⟩ := hx_fr (k := 2) (s := 32) q3 rfl
    obtain ⟨pa, e_pa, hG_pa⟩ := hx_fr (k := 5) (s := 35) q3 rfl
    obtain ⟨f0, g_f0, r_f0⟩ := hx_row hw hG_pk (s := 32) (kd := 0) (n := 5721) rfl (by decide)
    have ct2 : ∀ (nq : Nat) (w4 : ab_W) (i : Int32) (fa : Nat → Int32), ty_w sp_ G w4 → (F9 G F) w4 → ty_same G fz w w4 → (hx_has w4 o 9 2 (.ref pk)) → (hx_has w4 o 9 5 (.ref pa)) → (w4[pk]? = some (.inl (0, 5721, .inl f0))) → (w4[pa]? = some (.inl (0, 142, .inl fa))) → (0 ≤ i.toInt) → (i.toInt ≤ 71) → (∀ j : Nat, (j : Int) < i.toInt → fa (71 * k.toInt.toNat + j) = f0 j) → (72 - i.toInt).toNat < nq → ab_wp ro (ab_Ev ro ab_codes d) 9 false none ab_k_X9_laysAside (fun o_1 => ∃ v w1, o_1 = (v, w1, 0, 0) ∧ ty_w sp_ G w1 ∧ (F9 G F) w1 ∧ ty_same G fz w w1 ∧ ck_res G none v ∧ (fun as w v w1 => ∀ (o : Nat) (k : Int32) (pk pa : Nat) (f : Nat → Int32), as = [.ref o, .int k] → hx_has w o 9 2 (.ref pk) → hx_has w o 9 5 (.ref pa) → w[pk]? = some (.inl (0, 5721, .inl f)) → hx_has w1 o 9 2 (.ref pk) ∧ hx_has w1 o 9 5 (.ref pa) ∧ w1[pk]? = some (.inl (0, 5721, .inl f)) ∧ ∃ g, w1[pa]? = some (.inl (0, 142, .inl g)) ∧ ∀ j : Nat, j < 71 → g (71 * k.toInt.toNat + j) = f j) ([.ref o, .int k] : List Value) w v w1) (2, [some (.ref o), some (.int k), some (.int i)], [], w4, 0, 0) := by
      intro nq
      induction nq with
      | zero => intro w4 i fa hw11 hf12 hs13 hh5 hh6 g7 g8 i9 i10 hcp hm; exact absurd hm (Nat.not_lt_zero _)
      | succ nq ih2 =>
        intro w4 i fa hw11 hf12 hs13 hh5 hh6 g7 g8 i9 i10 hcp hm2
        obtain ⟨fs14, g15, e16⟩ := hh5
        obtain ⟨fs17, g18, e19⟩ := hh6
        obtain rfl : fs14 = fs17 := hx_inj g15 g18
        refine ax_go 1 (y := (3, [some (.ref o), some (.int k), some (.int i)], [.int i], w4, 0, 0)) rfl trivial ?_
        refine hx_k (l := 5) (m := 71) rfl rfl (by decide) (fun z20 h21 => ?_)
        refine hx_ic_ge (l := 8) rfl rfl (fun h22 => ?_) (fun h22 => ?_)
        · -- 31
          exact ax_ret rfl rfl trivial ⟨none, _, rfl, hw11, hf12, hs13, trivial, (fun o1 k1 pk1 pa1 f1 h1 h2 h3 h4 => by cases h1; obtain ⟨fsA, gA, eA⟩ := h2; obtain ⟨fsB, gB, eB⟩ := h3; obtain rfl := hx_inj g2 gA; obtain rfl := hx_inj g2 gB; cases e_pk.symm.trans eA; cases e_pa.symm.trans eB; obtain rfl := hx_injr g_f0 h4; exact ⟨⟨_, g15, e16⟩, ⟨_, g15, e19⟩, g7, fa, g8, fun j hj => hcp j (by omega)⟩)⟩
        · -- 8
          refine ax_go 1 (y := (9, [some (.ref o), some (.int k), some (.int i)], [.ref o], w4, 0, 0)) rfl trivial ?_
          refine hx_gf (l := 12) rfl rfl rfl g15 e19 ?_
          refine hx_k (l := 14) (m := 71) rfl rfl (by decide) (fun z23 h24 => ?_)
          refine ax_go 1 (y := (15, [some (.ref o), some (.int k), some (.int i)], [.int k, .int z23, .ref pa], w4, 0, 0)) rfl trivial ?_
          refine hx_mul (l := 16) rfl rfl (fun z25 h26 => ?_)
          rw [h24] at h26
          replace h26 := h26 (by omega) (by omega)
          refine ax_go 1 (y := (17, [some (.ref o), some (.int k), some (.int i)], [.int i, .int z25, .ref pa], w4, 0, 0)) rfl trivial ?_
          refine hx_add (l := 18) rfl rfl (fun z27 h28 => ?_)
          replace h28 := h28 (by omega) (by omega)
          refine ax_go 1 (y := (19, [some (.ref o), some (.int k), some (.int i)], [.ref o, .int z27, .ref pa], w4, 0, 0)) rfl trivial ?_
          refine hx_gf (l := 22) rfl rfl rfl g15 e16 ?_
          refine ax_go 1 (y := (23, [some (.ref o), some (.int k), some (.int i)], [.int i, .ref pk, .int z27, .ref pa], w4, 0, 0)) rfl trivial ?_
          have r29 := hx_rq hw11 g7 hG_pk (s := 32) rfl
          refine hx_il (l := 24) rfl rfl g7 (by omega) (by omega) (fun z30 h31 => ?_)
          refine hx_is (s := 35) (l := 25) rfl rfl rfl hw11 hG_pa g8 (by omega) (by omega) hx_sg0 (fun w32 f33 g34 e35 o36 n37 hw38 n39 => ?_)
          have hs40 := ty_same_tr hs13 (n39 fz (hx_ok hfz (by decide)))
          have kv42 := ((hf12.1.1 _ _ hG_pk g7).1 i.toInt.toNat (by omega)).1
          have old2 := hf12.1.2.1 _ _ hG_pa g8
          have mvn : ∀ (b k1 : Nat), k1 < 71 → (b = 0 ∨ b = 71) → z27.toInt.toNat = b + k1 → mv_b k1 (f33 z27.toInt.toNat).toInt := by
            intro b k1 hk hb e
            obtain rfl : k1 = i.toInt.toNat := by omega
            rw [e35, h31]
            exact kv42
          have hf41 : F9 G F w32 := ⟨FM_a hf12.1 hG_pa g34 n37 ⟨MV_up old2.1 o36 (fun k1 hk e => mvn 0 k1 hk (Or.inl rfl) e), MV_up old2.2 o36 (fun k1 hk e => mvn 71 k1 hk (Or.inr rfl) e)⟩, hF _ _ (smt_of (n39 prN (by decide))) hf12.2⟩
          refine hx_iinc (x := i) (n := 1) (l := 28) rfl rfl rfl (Nat.le_of_ble_eq_true rfl) (by omega) (by omega) (by decide) (fun z43 h44 => ?_)
          change ab_wp ro (ab_Ev ro ab_codes d) 9 false none ab_k_X9_laysAside (fun o_1 => ∃ v w1, o_1 = (v, w1, 0, 0) ∧ ty_w sp_ G w1 ∧ (F9 G F) w1 ∧ ty_same G fz w w1 ∧ ck_res G none v ∧ (fun as w v w1 => ∀ (o : Nat) (k : Int32) (pk pa : Nat) (f : Nat → Int32), as = [.ref o, .int k] → hx_has w o 9 2 (.ref pk) → hx_has w o 9 5 (.ref pa) → w[pk]? = some (.inl (0, 5721, .inl f)) → hx_has w1 o 9 2 (.ref pk) ∧ hx_has w1 o 9 5 (.ref pa) ∧ w1[pk]? = some (.inl (0, 5721, .inl f)) ∧ ∃ g, w1[pa]? = some (.inl (0, 142, .inl g)) ∧ ∀ j : Nat, j < 71 → g (71 * k.toInt.toNat + j) = f j) ([.ref o, .int k] : List Value) w v w1) (28, [some (.ref o), some (.int k), some (.int z43)], [], w32, 0, 0)
          refine ax_go 1 (y := (2, [some (.ref o), some (.int k), some (.int z43)], [], w32, 0, 0)) rfl trivial ?_
          exact ih2 w32 z43 f33 hw38 hf41 hs40 ⟨_, ((n37 _ (hx_ne hG0 hG_pa (by decide))).trans g15), e16⟩ ⟨_, ((n37 _ (hx_ne hG0 hG_pa (by decide))).trans g15), e19⟩ ((n37 _ (hx_ne hG_pk hG_pa (by decide))).trans g7) g34 (by omega) (by omega) (fun j hj => by
            by_cases zz : (j : Int) = i.toInt
            · rw [show 71 * k.toInt.toNat + j = z27.toInt.toNat by omega, e35, h31, show i.toInt.toNat = j by omega]
            · rw [o36 _ (by omega)]; exact hcp j (by omega)) (by omega)
    change ab_wp ro (ab_Ev ro ab_codes d) 9 false none ab_k_X9_laysAside (fun o_1 => ∃ v w1, o_1 = (v, w1, 0, 0) ∧ ty_w sp_ G w1 ∧ (F9 G F) w1 ∧ ty_same G fz w w1 ∧ ck_res G none v ∧ (fun as w v w1 => ∀ (o : Nat) (k : Int32) (pk pa : Nat) (f : Nat → Int32), as = [.ref o, .int k] → hx_has w o 9 2 (.ref pk) → hx_has w o 9 5 (.ref pa) → w[pk]? = some (.inl (0, 5721, .inl f)) → hx_has w1 o 9 2 (.ref pk) ∧ hx_has w1 o 9 5 (.ref pa) ∧ w1[pk]? = some (.inl (0, 5721, .inl f)) ∧ ∃ g, w1[pa]? = some (.inl (0, 142, .inl g)) ∧ ∀ j : Nat, j < 71 → g (71 * k.toInt.toNat + j) = f j) ([.ref o, .int k] : List Value) w v w1) (0, [some (.ref o), some (.int k), none], [], w, 0, 0)
    refine hx_k (l := 1) (m := 0) rfl rfl (by decide) (fun z45 h46 => ?_)
    refine ax_go 1 (y := (2, [some (.ref o), some (.int k), some (.int z45)], [], w, 0, 0)) rfl trivial ?_
    obtain ⟨f47, g48, r49⟩ := hx_row hw hG_pa (s := 35) (kd := 0) (n := 142) rfl (by decide)
    exact ct2 _ w z45 f47 hw hf (ty_same_rf w) ⟨_, g2, e_pk⟩ ⟨_, g2, e_pa⟩ g_f0 g48 (by omega) (by omega) (fun j hj => absurd hj (by omega)) (Nat.lt_succ_self _)
theorem h_X9_laysAside {ro : ab_R} {G : Nat → Nat} {fz : List (Nat × Nat)} {F : ab_W → Prop} (hF : ∀ w w', smt G w w' → F w → F w') (hfz : ∀ q ∈ fz, q ∈ fb_hp_X9_laysAside) (d : Nat) : ck_ct ro sp_ G (F9 G F) fz (ab_Ev ro ab_codes (d + 1)) 129 [(2, 30, 0), (0, 0, 1)] none 0 0 := hx_weak (hp_X9_laysAside hF hfz d) (fun _ _ => trivial)
def fb_hp_X9_takesBack : List (Nat × Nat) := [(8, 3), (8, 5), (19, 999), (33, 999), (34, 999), (35, 999), (44, 999), (45, 999), (1, 0), (18, 999), (2, 11), (2, 14), (1, 15), (54, 11), (4, 2), (7, 9), (30, 13), (30, 34), (30, 2), (30, 22), (30, 23), (30, 24), (30, 25), (46, 999), (47, 999), (30, 35), (30, 36), (7, 0), (24, 999), (37, 999), (30, 4), (30, 5), (30, 6), (30, 8), (30, 9), (30, 10), (30, 11), (30, 14), (30, 15), (30, 16), (30, 17), (30, 18), (30, 19), (30, 20), (30, 21), (39, 999), (40, 999), (41, 999), (30, 30), (30, 42), (30, 43), (30, 44), (1, 1), (1, 3), (1, 10), (1, 13), (8, 0), (30, 49), (2, 15), (8, 1)]
set_option maxHeartbeats 8000000 in
theorem hp_X9_takesBack {ro : ab_R} {G : Nat → Nat} {fz : List (Nat × Nat)} {F : ab_W → Prop} (hF : ∀ w w', smt G w w' → F w → F w') (hfz : ∀ q ∈ fz, q ∈ fb_hp_X9_takesBack) (d : Nat) : hx_ct ro sp_ G (F9 G F) fz (ab_Ev ro ab_codes (d + 1)) 130 [(2, 30, 0), (0, 0, 1)] none (fun _ _ => True) (fun as w v w1 => ∀ (o : Nat) (k : Int32) (pk pa : Nat) (f g : Nat → Int32), as = [.ref o, .int k] → hx_has w o 9 2 (.ref pk) → hx_has w o 9 5 (.ref pa) → w[pk]? = some (.inl (0, 5721, .inl f)) → w[pa]? = some (.inl (0, 142, .inl g)) → hx_has w1 o 9 2 (.ref pk) ∧ hx_has w1 o 9 5 (.ref pa) ∧ ∃ f2, w1[pk]? = some (.inl (0, 5721, .inl f2)) ∧ (∀ j : Nat, j < 71 → f2 j = g (71 * k.toInt.toNat + j)) ∧ ∀ j : Nat, 71 ≤ j → f2 j = f j) := by
  have hFF := F9_same hF
  refine hx_hand (d := d + 0) (by decide) (fun as w hw hf has hP => ?_)
  match as, has with
  | [v0, v1], ⟨h0, h1, _⟩ =>
    obtain ⟨o, rfl, _, hG0⟩ := ty_refn h0 rfl rfl
    replace hG0 : G o = 30 := hG0
    obtain ⟨k, rfl, hl1, hh1⟩ := ty_int h1 rfl
    replace hl1 : (0 : Int) ≤ k.toInt := hl1
    replace hh1 : k.toInt ≤ 1 := hh1
    refine ⟨rfl, ?_⟩
    obtain ⟨fs1, g2, -, q3⟩ := hx_obj hw hG0 (s := 30) rfl (by decide)
    obtain ⟨pk, e_pk, hG_pk⟩ := hx_fr (k := 2) (s := 32) q3 rfl
    obtain ⟨pa, e_pa, hG_pa⟩ := hx_fr (k := 5) (s := 35) q3 rfl
    obtain ⟨f0, g_f0, r_f0⟩ := hx_row hw hG_pk (s := 32) (kd := 0) (n := 5721) rfl (by decide)
    obtain ⟨g0, g_g0, r_g0⟩ := hx_row hw hG_pa (s := 35) (kd := 0) (n := 142) rfl (by decide)
    have ct2 : ∀ (nq : Nat) (w4 : ab_W) (i : Int32) (fk : Nat → Int32), ty_w sp_ G w4 → (F9 G F) w4 → ty_same G fz w w4 → (hx_has w4 o 9 2 (.ref pk)) → (hx_has w4 o 9 5 (.ref pa)) → (w4[pk]? = some (.inl (0, 5721, .inl fk))) → (w4[pa]? = some (.inl (0, 142, .inl g0))) → (0 ≤ i.toInt) → (i.toInt ≤ 71) → (∀ j : Nat, (j : Int) < i.toInt → fk j = g0 (71 * k.toInt.toNat + j)) → (∀ j : Nat, 71 ≤ j → fk j = f0 j) → (72 - i.toInt).toNat < nq → ab_wp ro (ab_Ev ro ab_codes d) 9 false none ab_k_X9_takesBack (fun o_1 => ∃ v w1, o_1 = (v, w1, 0, 0) ∧ ty_w sp_ G w1 ∧ (F9 G F) w1 ∧ ty_same G fz w w1 ∧ ck_res G none v ∧ (fun as w v w1 => ∀ (o : Nat) (k : Int32) (pk pa : Nat) (f g : Nat → Int32), as = [.ref o, .int k] → hx_has w o 9 2 (.ref pk) → hx_has w o 9 5 (.ref pa) → w[pk]? = some (.inl (0, 5721, .inl f)) → w[pa]? = some (.inl (0, 142, .inl g)) → hx_has w1 o 9 2 (.ref pk) ∧ hx_has w1 o 9 5 (.ref pa) ∧ ∃ f2, w1[pk]? = some (.inl (0, 5721, .inl f2)) ∧ (∀ j : Nat, j < 71 → f2 j = g (71 * k.toInt.toNat + j)) ∧ ∀ j : Nat, 71 ≤ j → f2 j = f j) ([.ref o, .int k] : List Value) w v w1) (2, [some (.ref o), some (.int k), some (.int i)], [], w4, 0, 0) := by
      intro nq
      induction nq with
      | zero => intro w4 i fk hw11 hf12 hs13 hh5 hh6 g7 g8 i9 i10 hcp hst hm; exact absurd hm (Nat.not_lt_zero _)
      | succ nq ih2 =>
        intro w4 i fk hw11 hf12 hs13 hh5 hh6 g7 g8 i9 i10 hcp hst hm2
        obtain ⟨fs14, g15, e16⟩ := hh5
        obtain ⟨fs17, g18, e19⟩ := hh6
        obtain rfl : fs14 = fs17 := hx_inj g15 g18
        refine ax_go 1 (y := (3, [some (.ref o), some (.int k), some (.int i)], [.int i], w4, 0, 0)) rfl trivial ?_
        refine hx_k (l := 5) (m := 71) rfl rfl (by decide) (fun z20 h21 => ?_)
        refine hx_ic_ge (l := 8) rfl rfl (fun h22 => ?_) (fun h22 => ?_)
        · -- 31
          exact ax_ret rfl rfl trivial ⟨none, _, rfl, hw11, hf12, hs13, trivial, (fun o1 k1 pk1 pa1 f1 g1 h1 h2 h3 h4 h5 => by cases h1; obtain ⟨fsA, gA, eA⟩ := h2; obtain ⟨fsB, gB, eB⟩ := h3; obtain rfl := hx_inj g2 gA; obtain rfl := hx_inj g2 gB; cases e_pk.symm.trans eA; cases e_pa.symm.trans eB; obtain rfl := hx_injr g_f0 h4; obtain rfl := hx_injr g_g0 h5; exact ⟨⟨_, g15, e16⟩, ⟨_, g15, e19⟩, fk, g7, fun j hj => hcp j (by omega), hst⟩)⟩
        · -- 8
          refine ax_go 1 (y := (9, [some (.ref o), some (.int k), some (.int i)], [.ref o], w4, 0, 0)) rfl trivial ?_
          refine hx_gf (l := 12) rfl rfl rfl g15 e16 ?_
          refine ax_go 2 (y := (14, [some (.ref o), some (.int k), some (.int i)], [.ref o, .int i, .ref pk], w4, 0, 0)) rfl trivial ?_
          refine hx_gf (l := 17) rfl rfl rfl g15 e19 ?_
          refine hx_k (l := 19) (m := 71) rfl rfl (by decide) (fun z23 h24 => ?_)
          refine ax_go 1 (y := (20, [some (.ref o), some (.int k), some (.int i)], [.int k, .int z23, .ref pa, .int i, .ref pk], w4, 0, 0)) rfl trivial ?_
          refine hx_mul (l := 21) rfl rfl (fun z25 h26 => ?_)
          rw [h24] at h26
          replace h26 := h26 (by omega) (by omega)
          refine ax_go 1 (y := (22, [some (.ref o), some (.int k), some (.int i)], [.int i, .int z25, .ref pa, .int i, .ref pk], w4, 0, 0)) rfl trivial ?_
          refine hx_add (l := 23) rfl rfl (fun z27 h28 => ?_)
          replace h28 := h28 (by omega) (by omega)
          have r29 := hx_rq hw11 g8 hG_pa (s := 35) rfl
          refine hx_il (l := 24) rfl rfl g8 (by omega) (by omega) (fun z30 h31 => ?_)
          have mvq : mv_b i.toInt.toNat z30.toInt := by
            have old2 := hf12.1.2.1 _ _ hG_pa g8
            rcases (show k.toInt = 0 ∨ k.toInt = 1 by omega) with e | e
            · have y := old2.1 i.toInt.toNat (by omega)
              rw [show 0 + i.toInt.toNat = z27.toInt.toNat by omega, ← h31] at y
              exact y
            · have y := old2.2 i.toInt.toNat (by omega)
              rw [show 71 + i.toInt.toNat = z27.toInt.toNat by omega, ← h31] at y
              exact y
          refine hx_is (s := 32) (l := 25) rfl rfl rfl hw11 hG_pk g7 (by omega) (by omega) (kb_sg (mv_ok mvq (by omega))) (fun w32 f33 g34 e35 o36 n37 hw38 n39 => ?_)
          have hs40 := ty_same_tr hs13 (n39 fz (hx_ok hfz (by decide)))
          have kp42 := hf12.1.1 _ _ hG_pk g7
          have mv44 : mv_b i.toInt.toNat z30.toInt := by
            have old2 := hf12.1.2.1 _ _ hG_pa g8
            rcases (show k.toInt = 0 ∨ k.toInt = 1 by omega) with e | e
            · have y := old2.1 i.toInt.toNat (by omega)
              rw [show 0 + i.toInt.toNat = z27.toInt.toNat by omega, ← h31] at y
              exact y
            · have y := old2.2 i.toInt.toNat (by omega)
              rw [show 71 + i.toInt.toNat = z27.toInt.toNat by omega, ← h31] at y
              exact y
          have hf41 : F9 G F w32 := ⟨FM_k hf12.1 hG_pk g34 n37 (KP_up kp42 o36 (by rw [e35]; exact mv_ok mv44 (by omega)) (by omega)), hF _ _ (smt_k (n39 prM (by decide)) g7 g34 n37 (fun j hj => o36 j (by omega))) hf12.2⟩
          refine hx_iinc (x := i) (n := 1) (l := 28) rfl rfl rfl (Nat.le_of_ble_eq_true rfl) (by omega) (by omega) (by decide) (fun z45 h46 => ?_)
          change ab_wp ro (ab_Ev ro ab_codes d) 9 false none ab_k_X9_takesBack (fun o_1 => ∃ v w1, o_1 = (v, w1, 0, 0) ∧ ty_w sp_ G w1 ∧ (F9 G F) w1 ∧ ty_same G fz w w1 ∧ ck_res G none v ∧ (fun as w v w1 => ∀ (o : Nat) (k : Int32) (pk pa : Nat) (f g : Nat → Int32), as = [.ref o, .int k] → hx_has w o 9 2 (.ref pk) → hx_has w o 9 5 (.ref pa) → w[pk]? = some (.inl (0, 5721, .inl f)) → w[pa]? = some (.inl (0, 142, .inl g)) → hx_has w1 o 9 2 (.ref pk) ∧ hx_has w1 o 9 5 (.ref pa) ∧ ∃ f2, w1[pk]? = some (.inl (0, 5721, .inl f2)) ∧ (∀ j : Nat, j < 71 → f2 j = g (71 * k.toInt.toNat + j)) ∧ ∀ j : Nat, 71 ≤ j → f2 j = f j) ([.ref o, .int k] : List Value) w v w1) (28, [some (.ref o), some (.int k), some (.int z45)], [], w32, 0, 0)
          refine ax_go 1 (y := (2, [some (.ref o), some (.int k), some (.int z45)], [], w32, 0, 0)) rfl trivial ?_
          exact ih2 w32 z45 f33 hw38 hf41 hs40 ⟨_, ((n37 _ (hx_ne hG0 hG_pk (by decide))).trans g15), e16⟩ ⟨_, ((n37 _ (hx_ne hG0 hG_pk (by decide))).trans g15), e19⟩ g34 ((n37 _ (hx_ne hG_pa hG_pk (by decide))).trans g8) (by omega) (by omega) (fun j hj => by
            by_cases zz : (j : Int) = i.toInt
            · rw [show j = i.toInt.toNat by omega, e35, h31, show z27.toInt.toNat = 71 * k.toInt.toNat + i.toInt.toNat by omega]
            · rw [o36 _ (by omega)]; exact hcp j (by omega)) (fun j hj => by rw [o36 _ (by omega)]; exact hst j (by omega)) (by omega)
    change ab_wp ro (ab_Ev ro ab_codes d) 9 false none ab_k_X9_takesBack (fun o_1 => ∃ v w1, o_1 = (v, w1, 0, 0) ∧ ty_w sp_ G w1 ∧ (F9 G F) w1 ∧ ty_same G fz w w1 ∧ ck_res G none v ∧ (fun as w v w1 => ∀ (o : Nat) (k : Int32) (pk pa : Nat) (f g : Nat → Int32), as = [.ref o, .int k] → hx_has w o 9 2 (.ref pk) → hx_has w o 9 5 (.ref pa) → w[pk]? = some (.inl (0, 5721, .inl f)) → w[pa]? = some (.inl (0, 142, .inl g)) → hx_has w1 o 9 2 (.ref pk) ∧ hx_has w1 o 9 5 (.ref pa) ∧ ∃ f2, w1[pk]? = some (.inl (0, 5721, .inl f2)) ∧ (∀ j : Nat, j < 71 → f2 j = g (71 * k.toInt.toNat + j)) ∧ ∀ j : Nat, 71 ≤ j → f2 j = f j) ([.ref o, .int k] : List Value) w v w1) (0, [some (.ref o), some (.int k), none], [], w, 0, 0)
    refine hx_k (l := 1) (m := 0) rfl rfl (by decide) (fun z47 h48 => ?_)
    refine ax_go 1 (y := (2, [some (.ref o), some (.int k), some (.int z47)], [], w, 0, 0)) rfl trivial ?_
    exact ct2 _ w z47 f0 hw hf (ty_same_rf w) ⟨_, g2, e_pk⟩ ⟨_, g2, e_pa⟩ g_f0 g_g0 (by omega) (by omega) (fun j hj => absurd hj (by omega)) (fun j hj => rfl) (Nat.lt_succ_self _)
theorem h_X9_takesBack {ro : ab_R} {G : Nat → Nat} {fz : List (Nat × Nat)} {F : ab_W → Prop} (hF : ∀ w w', smt G w w' → F w → F w') (hfz : ∀ q ∈ fz, q ∈ fb_hp_X9_takesBack) (d : Nat) : ck_ct ro sp_ G (F9 G F) fz (ab_Ev ro ab_codes (d + 1)) 130 [(2, 30, 0), (0, 0, 1)] none 0 0 := hx_weak (hp_X9_takesBack hF hfz d) (fun _ _ => trivial)
def fb_X9_settled : List (Nat × Nat) := [(8, 3), (8, 5), (19, 999), (32, 999), (33, 999), (34, 999), (35, 999), (44, 999), (45, 999), (1, 0), (18, 999), (2, 11), (2, 14), (1, 15), (54, 11), (4, 2), (7, 9), (30, 13), (30, 2), (30, 22), (30, 23), (30, 24), (30, 25), (46, 999), (47, 999), (30, 35), (30, 36), (7, 0), (24, 999), (37, 999), (30, 4), (30, 5), (30, 6), (30, 8), (30, 9), (30, 10), (30, 11), (30, 14), (30, 15), (30, 16), (30, 17), (30, 18), (30, 19), (30, 20), (30, 21), (39, 999), (40, 999), (41, 999), (30, 30), (30, 42), (30, 43), (30, 44), (1, 1), (1, 3), (1, 10), (1, 13), (8, 0), (30, 49), (2, 15), (8, 1)]
set_option maxHeartbeats 8000000 in
theorem h_X9_settled {ro : ab_R} {G : Nat → Nat} {fz : List (Nat × Nat)} {F : ab_W → Prop} (hF : ∀ w w', smt G w w' → F w → F w') (hfz : ∀ q ∈ fz, q ∈ fb_X9_settled) (d : Nat) : ck_ct ro sp_ G (F9 G F) fz (ab_Ev ro ab_codes (d + 2)) 126 [(2, 30, 0), (0, (-2147483648), 2147483647)] (some (0, (-2147483648), 2147483647)) 0 0 := by
  have hFF := F9_same hF
  refine ck_hand (d := d + 1) (by decide) (fun as w hw hf has => ?_)
  match as, has with
  | [v0, v1], ⟨h0, h1, _⟩ =>
    obtain ⟨o, rfl, _, hG0⟩ := ty_refn h0 rfl rfl
    replace hG0 : G o = 30 := hG0
    obtain ⟨vv, rfl, hl1, hh1⟩ := ty_int h1 rfl
    replace hl1 : ((-2147483648) : Int) ≤ vv.toInt := hl1
    replace hh1 : vv.toInt ≤ 2147483647 := hh1
    refine ⟨rfl, ?_⟩
    change ab_wp ro (ab_Ev ro ab_codes (d + 1)) 9 false (some .int) ab_k_X9_settled (fun o_1 => ∃ v w1, o_1 = (v, w1, 0, 0) ∧ ty_w sp_ G w1 ∧ (F9 G F) w1 ∧ ty_same G fz w w1 ∧ ck_res G (some (0, (-2147483648), 2147483647)) v ∧ ck_wit 0 0 [.ref o, .int vv] v) (0, [some (.ref o), some (.int vv)], [], w, 0, 0)
    refine ax_go 1 (y := (1, [some (.ref o), some (.int vv)], [.ref o], w, 0, 0)) rfl trivial ?_
    refine hx_k (l := 2) (m := 0) rfl rfl (by decide) (fun z1 h2 => ?_)
    obtain ⟨fs3, g4, -, q5⟩ := hx_obj hw hG0 (s := 30) rfl (by decide)
    refine hx_pf (q := (0, 0, 0, 0, 0, 16)) (s := 30) (l := 5) (v := .int z1) rfl rfl rfl (by decide) rfl rfl rfl hw hG0 g4 trivial (hx_ti (G := G) (lo := 0) (hi := 16) (by omega) (by omega)) (fun w6 fs7 g8 e9 o10 n11 hw12 n13 => ?_)
    have hs14 := ty_same_tr (ty_same_rf w) (n13 fz (hx_ok hfz (by decide)))
    have hf15 := hFF _ _ (n13 pr_ (by decide)) hf
    refine ax_go 2 (y := (7, [some (.ref o), some (.int vv)], [.int vv, .ref o], w6, 0, 0)) rfl trivial ?_
    refine hx_ci (l := 10) (as := [.ref o, .int vv]) rfl rfl (hx_iv (j := 125) (n := 1) (o := o) (r := []) rfl rfl g8 rfl) (cc_X9_good_0 (fz := fz) hFF  (fun q hq => (by decide +kernel : ∀ q ∈ fb_X9_settled, q ∈ fr_X9_good_0) q (hfz q hq)) (d + 0)) hw12 hf15 ⟨(hx_tr (G := G) (s := 30) (b := 0) hG0 (by decide)), (ck_top_ok (G := G) vv), trivial⟩ (fun w16 z21 hw17 hf18 m19 a22 b23 u24 => ?_)
    have hs20 := ty_same_tr hs14 m19
    exact ax_ret rfl rfl trivial ⟨some (.int z21), _, rfl, hw17, hf18, hs20, (ck_top_ok (G := G) z21), trivial⟩
def fb_hp_X9_walksOff : List (Nat × Nat) := [(8, 3), (8, 5), (19, 999), (33, 999), (34, 999), (35, 999), (44, 999), (45, 999), (1, 0), (18, 999), (2, 11), (2, 14), (1, 15), (54, 11), (4, 2), (7, 9), (30, 13), (30, 34), (30, 2), (30, 22), (30, 23), (30, 24), (30, 25), (46, 999), (47, 999), (30, 35), (30, 36), (7, 0), (24, 999), (37, 999), (30, 4), (30, 5), (30, 6), (30, 8), (30, 9), (30, 10), (30, 11), (30, 14), (30, 15), (30, 16), (30, 17), (30, 18), (30, 19), (30, 20), (30, 21), (39, 999), (40, 999), (41, 999), (30, 30), (30, 42), (30, 43), (30, 44), (1, 1), (1, 3), (1, 10), (1, 13), (8, 0), (30, 49), (2, 15), (8, 1)]
set_option maxHeartbeats 8000000 in
theorem hp_X9_walksOff {ro : ab_R} {G : Nat → Nat} {fz : List (Nat × Nat)} {F : ab_W → Prop} (hF : ∀ w w', smt G w w' → F w → F w') (hfz : ∀ q ∈ fz, q ∈ fb_hp_X9_walksOff) (d : Nat) : hx_ct ro sp_ G (F9 G F) fz (ab_Ev ro ab_codes (d + 2)) 191 [(2, 30, 0), (0, 0, 9), (0, 0, 98)] none (fun as w => ∀ (o : Nat) (p : Int32) (m : Int32) (pk : Nat) (f : Nat → Int32), as = [.ref o, .int p, .int m] → hx_has w o 9 2 (.ref pk) → w[pk]? = some (.inl (0, 5721, .inl f)) → m.toInt ≤ (f p.toInt.toNat).toInt) (fun _ _ _ _ => True) := by
  have hFF := F9_same hF
  refine hx_hand (d := d + 1) (by decide) (fun as w hw hf has hP => ?_)
  match as, has with
  | [v0, v1, v2], ⟨h0, h1, h2, _⟩ =>
    obtain ⟨o, rfl, _, hG0⟩ := ty_refn h0 rfl rfl
    replace hG0 : G o = 30 := hG0
    obtain ⟨p, rfl, hl1, hh1⟩ := ty_int h1 rfl
    replace hl1 : (0 : Int) ≤ p.toInt := hl1
    replace hh1 : p.toInt ≤ 9 := hh1
    obtain ⟨m, rfl, hl2, hh2⟩ := ty_int h2 rfl
    replace hl2 : (0 : Int) ≤ m.toInt := hl2
    replace hh2 : m.toInt ≤ 98 := hh2
    refine ⟨rfl, ?_⟩
    obtain ⟨fs1, g2, -, q3⟩ := hx_obj hw hG0 (s := 30) rfl (by decide)
    obtain ⟨pk, e_pk, hG_pk⟩ := hx_fr (k := 2) (s := 32) q3 rfl
    obtain ⟨f0, g_f0, r_f0⟩ := hx_row hw hG_pk (s := 32) (kd := 0) (n := 5721) rfl (by decide)
    have hp0 := hP o p m pk f0 rfl ⟨_, g2, e_pk⟩ g_f0
    change ab_wp ro (ab_Ev ro ab_codes (d + 1)) 9 false none ab_k_X9_walksOff (fun o_1 => ∃ v w1, o_1 = (v, w1, 0, 0) ∧ ty_w sp_ G w1 ∧ (F9 G F) w1 ∧ ty_same G fz w w1 ∧ ck_res G none v ∧ (fun _ _ _ _ => True) ([.ref o, .int p, .int m] : List Value) w v w1) (0, [some (.ref o), some (.int p), some (.int m)], [], w, 0, 0)
    refine ax_go 1 (y := (1, [some (.ref o), some (.int p), some (.int m)], [.ref o], w, 0, 0)) rfl trivial ?_
    refine hx_gf (l := 4) rfl rfl rfl g2 e_pk ?_
    refine hx_k (l := 5) (m := 0) rfl rfl (by decide) (fun z4 h5 => ?_)
    refine ax_go 1 (y := (6, [some (.ref o), some (.int p), some (.int m)], [.int p, .int z4, .ref pk], w, 0, 0)) rfl trivial ?_
    refine hx_add (l := 7) rfl rfl (fun z6 h7 => ?_)
    replace h7 := h7 (by omega) (by omega)
    refine ax_go 1 (y := (8, [some (.ref o), some (.int p), some (.int m)], [.int z6, .ref pk, .int z6, .ref pk], w, 0, 0)) rfl trivial ?_
    refine hx_il (l := 9) rfl rfl g_f0 (by omega) (by omega) (fun z8 h9 => ?_)
    have b10 := ((hf.1.1 _ _ hG_pk g_f0).1 z6.toInt.toNat (by omega)).1.1 (by omega)
    rw [← h9] at b10
    rw [show p.toInt.toNat = z6.toInt.toNat by omega, ← h9] at hp0
    refine ax_go 1 (y := (10, [some (.ref o), some (.int p), some (.int m)], [.int m, .int z8, .int z6, .ref pk], w, 0, 0)) rfl trivial ?_
    refine hx_sub (l := 11) rfl rfl (fun z11 h12 => ?_)
    replace h12 := h12 (by omega) (by omega)
    refine hx_is (s := 32) (l := 12) rfl rfl rfl hw hG_pk g_f0 (by omega) (by omega) (hx_sg1 (fun _ _ _ => ⟨by omega, by omega⟩) (hx_sg1 (fun _ _ _ => ⟨by omega, by omega⟩) (hx_sg1 (fun _ _ _ => ⟨by omega, by omega⟩) (hx_sg1 (fun _ _ _ => ⟨by omega, by omega⟩) (hx_sg1 (fun _ _ _ => ⟨by omega, by omega⟩) (hx_sg1 (fun _ _ _ => ⟨by omega, by omega⟩) (hx_sg1 (fun _ _ _ => ⟨by omega, by omega⟩) (hx_sg1 (fun _ _ _ => ⟨by omega, by omega⟩) (hx_sg1 (fun _ _ _ => ⟨by omega, by omega⟩) hx_sg0))))))))) (fun w13 f14 g15 e16 o17 n18 hw19 n20 => ?_)
    have hs21 := ty_same_tr (ty_same_rf w) (n20 fz (hx_ok hfz (by decide)))
    have kp23 := hf.1.1 _ _ hG_pk g_f0
    have kq24 : kb z6.toInt.toNat z11.toInt := ⟨⟨fun _ => by omega, fun _ _ _ => by omega, fun _ _ _ => by omega, fun _ => by omega⟩, fun _ _ => by omega, fun _ _ _ => by omega, fun _ => by omega, fun _ => by omega, fun _ => by omega, fun _ => by omega, fun _ => by omega, fun _ _ => by omega⟩
    have hf22 : F9 G F w13 := ⟨FM_k hf.1 hG_pk g15 n18 (KP_up kp23 o17 (by rw [e16]; exact kq24) (by omega)), hF _ _ (smt_k (n20 prM (by decide)) g_f0 g15 n18 (fun j hj => o17 j (by omega))) hf.2⟩
    refine ax_go 1 (y := (13, [some (.ref o), some (.int p), some (.int m)], [.ref o], w13, 0, 0)) rfl trivial ?_
    refine hx_gf (l := 16) rfl rfl rfl ((n18 _ (hx_ne hG0 hG_pk (by decide))).trans g2) e_pk ?_
    refine hx_k (l := 18) (m := 10) rfl rfl (by decide) (fun z25 h26 => ?_)
    refine ax_go 1 (y := (19, [some (.ref o), some (.int p), some (.int m)], [.int p, .int z25, .ref pk], w13, 0, 0)) rfl trivial ?_
    refine hx_add (l := 20) rfl rfl (fun z27 h28 => ?_)
    replace h28 := h28 (by omega) (by omega)
    refine hx_k (l := 23) (m := 99999) rfl rfl (by decide) (fun z29 h30 => ?_)
    refine ax_go 1 (y := (24, [some (.ref o), some (.int p), some (.int m)], [.ref o, .int z29, .int z27, .ref pk], w13, 0, 0)) rfl trivial ?_
    refine hx_gf (l := 27) rfl rfl rfl ((n18 _ (hx_ne hG0 hG_pk (by decide))).trans g2) e_pk ?_
    refine hx_k (l := 29) (m := 10) rfl rfl (by decide) (fun z31 h32 => ?_)
    refine ax_go 1 (y := (30, [some (.ref o), some (.int p), some (.int m)], [.int p, .int z31, .ref pk, .int z29, .int z27, .ref pk], w13, 0, 0)) rfl trivial ?_
    refine hx_add (l := 31) rfl rfl (fun z33 h34 => ?_)
    replace h34 := h34 (by omega) (by omega)
    have r35 := hx_rq hw19 g15 hG_pk (s := 32) rfl
    refine hx_il (l := 32) rfl rfl g15 (by omega) (by omega) (fun z36 h37 => ?_)
    refine ax_go 1 (y := (33, [some (.ref o), some (.int p), some (.int m)], [.int m, .int z36, .int z29, .int z27, .ref pk], w13, 0, 0)) rfl trivial ?_
    refine hx_add (l := 34) rfl rfl (fun z38 h39 => ?_)
    refine hx_pi (l := 37) (as := [.int z29, .int z38]) rfl rfl rfl (hp_X9_lesser (fz := fz) hFF (fun q hq => (by decide +kernel : ∀ q ∈ fb_hp_X9_walksOff, q ∈ fb_hp_X9_lesser) q (hfz q hq)) (d + 0)) hw19 hf22 ⟨(ck_top_ok (G := G) z29), (ck_top_ok (G := G) z38), trivial⟩ trivial (fun w40 z45 hw41 hf42 m43 a46 b47 u48 => ?_)
    rw [u48.1]
    have u49 := u48.2 _ _ _ rfl rfl
    refine hx_is (s := 32) (l := 38) rfl rfl rfl hw19 hG_pk g15 (by omega) (by omega) (hx_sg1 (fun _ _ _ => ⟨by omega, by omega⟩) (hx_sg1 (fun _ _ _ => ⟨by omega, by omega⟩) (hx_sg1 (fun _ _ _ => ⟨by omega, by omega⟩) (hx_sg1 (fun _ _ _ => ⟨by omega, by omega⟩) (hx_sg1 (fun _ _ _ => ⟨by omega, by omega⟩) (hx_sg1 (fun _ _ _ => ⟨by omega, by omega⟩) (hx_sg1 (fun _ _ _ => ⟨by omega, by omega⟩) (hx_sg1 (fun _ _ _ => ⟨by omega, by omega⟩) (hx_sg1 (fun _ _ _ => ⟨by omega, by omega⟩) hx_sg0))))))))) (fun w50 f51 g52 e53 o54 n55 hw56 n57 => ?_)
    have hs58 := ty_same_tr hs21 (n57 fz (hx_ok hfz (by decide)))
    have kp60 := hf22.1.1 _ _ hG_pk g15
    have kq61 : kb z27.toInt.toNat z45.toInt := ⟨⟨fun _ => by omega, fun _ _ _ => by omega, fun _ _ _ => by omega, fun _ => by omega⟩, fun _ _ => by omega, fun _ _ _ => by omega, fun _ => by omega, fun _ => by omega, fun _ => by omega, fun _ => by omega, fun _ => by omega, fun _ _ => by omega⟩
    have hf59 : F9 G F w50 := ⟨FM_k hf22.1 hG_pk g52 n55 (KP_up kp60 o54 (by rw [e53]; exact kq61) (by omega)), hF _ _ (smt_k (n57 prM (by decide)) g15 g52 n55 (fun j hj => o54 j (by omega))) hf22.2⟩
    exact ax_ret rfl rfl trivial ⟨none, _, rfl, hw56, hf59, hs58, trivial, trivial⟩
def fb_X9_arrives : List (Nat × Nat) := [(8, 3), (8, 5), (19, 999), (33, 999), (34, 999), (35, 999), (44, 999), (45, 999), (1, 0), (18, 999), (2, 11), (2, 14), (1, 15), (54, 11), (4, 2), (7, 9), (30, 13), (30, 34), (30, 2), (30, 22), (30, 23), (30, 24), (30, 25), (46, 999), (47, 999), (30, 35), (30, 36), (7, 0), (24, 999), (37, 999), (30, 4), (30, 5), (30, 6), (30, 8), (30, 9), (30, 10), (30, 11), (30, 14), (30, 15), (30, 16), (30, 17), (30, 18), (30, 19), (30, 20), (30, 21), (39, 999), (40, 999), (41, 999), (30, 30), (30, 42), (30, 43), (30, 44), (1, 1), (1, 3), (1, 10), (1, 13), (8, 0), (30, 49), (2, 15), (8, 1)]
set_option maxHeartbeats 8000000 in
theorem h_X9_arrives {ro : ab_R} {G : Nat → Nat} {fz : List (Nat × Nat)} {F : ab_W → Prop} (hF : ∀ w w', smt G w w' → F w → F w') (hfz : ∀ q ∈ fz, q ∈ fb_X9_arrives) (d : Nat) : ck_ct ro sp_ G (F9 G F) fz (ab_Ev ro ab_codes (d + 2)) 193 [(2, 30, 0), (0, 0, 9), (0, 0, 98)] none 0 0 := by
  have hFF := F9_same hF
  refine ck_hand (d := d + 1) (by decide) (fun as w hw hf has => ?_)
  match as, has with
  | [v0, v1, v2], ⟨h0, h1, h2, _⟩ =>
    obtain ⟨o, rfl, _, hG0⟩ := ty_refn h0 rfl rfl
    replace hG0 : G o = 30 := hG0
    obtain ⟨p, rfl, hl1, hh1⟩ := ty_int h1 rfl
    replace hl1 : (0 : Int) ≤ p.toInt := hl1
    replace hh1 : p.toInt ≤ 9 := hh1
    obtain ⟨m, rfl, hl2, hh2⟩ := ty_int h2 rfl
    replace hl2 : (0 : Int) ≤ m.toInt := hl2
    replace hh2 : m.toInt ≤ 98 := hh2
    refine ⟨rfl, ?_⟩
    change ab_wp ro (ab_Ev ro ab_codes (d + 1)) 9 false none ab_k_X9_arrives (fun o_1 => ∃ v w1, o_1 = (v, w1, 0, 0) ∧ ty_w sp_ G w1 ∧ (F9 G F) w1 ∧ ty_same G fz w w1 ∧ ck_res G none v ∧ ck_wit 0 0 [.ref o, .int p, .int m] v) (0, [some (.ref o), some (.int p), some (.int m), none], [], w, 0, 0)
    refine ax_go 1 (y := (1, [some (.ref o), some (.int p), some (.int m), none], [.ref o], w, 0, 0)) rfl trivial ?_
    obtain ⟨fs1, g2, -, q3⟩ := hx_obj hw hG0 (s := 30) rfl (by decide)
    obtain ⟨p4, e5, hG6⟩ := hx_fr (k := 2) (s := 32) q3 rfl
    refine hx_gf (l := 4) rfl rfl rfl g2 e5 ?_
    refine hx_k (l := 6) (m := 71) rfl rfl (by decide) (fun z7 h8 => ?_)
    refine ax_go 1 (y := (7, [some (.ref o), some (.int p), some (.int m), none], [.int p, .int z7, .ref p4], w, 0, 0)) rfl trivial ?_
    refine hx_add (l := 8) rfl rfl (fun z9 h10 => ?_)
    replace h10 := h10 (by omega) (by omega)
    obtain ⟨f11, g12, r13⟩ := hx_row hw hG6 (s := 32) (kd := 0) (n := 5721) rfl (by decide)
    refine hx_il (l := 9) rfl rfl g12 (by omega) (by omega) (fun z14 h15 => ?_)
    have b16 := ((hf.1.1 _ _ hG6 g12).1 z9.toInt.toNat (by omega)).2.1 (by omega) (by omega)
    rw [← h15] at b16
    refine ax_go 2 (y := (11, [some (.ref o), some (.int p), some (.int m), some (.int z14)], [.int z14], w, 0, 0)) rfl trivial ?_
    refine hx_k (l := 12) (m := (-1)) rfl rfl (by decide) (fun z17 h18 => ?_)
    refine hx_ic_ne (l := 15) rfl rfl (fun h19 => ?_) (fun h19 => ?_)
    · -- 50
      refine ax_go 1 (y := (51, [some (.ref o), some (.int p), some (.int m), some (.int z14)], [.ref o], w, 0, 0)) rfl trivial ?_
      refine hx_gf (l := 54) rfl rfl rfl g2 e5 ?_
      refine hx_k (l := 55) (m := 0) rfl rfl (by decide) (fun z20 h21 => ?_)
      refine ax_go 1 (y := (56, [some (.ref o), some (.int p), some (.int m), some (.int z14)], [.int z14, .int z20, .ref p4], w, 0, 0)) rfl trivial ?_
      refine hx_add (l := 57) rfl rfl (fun z22 h23 => ?_)
      replace h23 := h23 (by omega) (by omega)
      refine hx_k (l := 60) (m := 999) rfl rfl (by decide) (fun z24 h25 => ?_)
      refine ax_go 1 (y := (61, [some (.ref o), some (.int p), some (.int m), some (.int z14)], [.ref o, .int z24, .int z22, .ref p4], w, 0, 0)) rfl trivial ?_
      refine hx_gf (l := 64) rfl rfl rfl g2 e5 ?_
      refine hx_k (l := 65) (m := 0) rfl rfl (by decide) (fun z26 h27 => ?_)
      refine ax_go 1 (y := (66, [some (.ref o), some (.int p), some (.int m), some (.int z14)], [.int z14, .int z26, .ref p4, .int z24, .int z22, .ref p4], w, 0, 0)) rfl trivial ?_
      refine hx_add (l := 67) rfl rfl (fun z28 h29 => ?_)
      replace h29 := h29 (by omega) (by omega)
      refine hx_il (l := 68) rfl rfl g12 (by omega) (by omega) (fun z30 h31 => ?_)
      have b32 := ((hf.1.1 _ _ hG6 g12).1 z28.toInt.toNat (by omega)).1.1 (by omega)
      rw [← h31] at b32
      refine ax_go 1 (y := (69, [some (.ref o), some (.int p), some (.int m), some (.int z14)], [.int m, .int z30, .int z24, .int z22, .ref p4], w, 0, 0)) rfl trivial ?_
      refine hx_add (l := 70) rfl rfl (fun z33 h34 => ?_)
      replace h34 := h34 (by omega) (by omega)
      refine hx_pi (l := 73) (as := [.int z24, .int z33]) rfl rfl rfl (hp_X9_lesser (fz := fz) hFF (fun q hq => (by decide +kernel : ∀ q ∈ fb_X9_arrives, q ∈ fb_hp_X9_lesser) q (hfz q hq)) (d + 0)) hw hf ⟨(ck_top_ok (G := G) z24), (ck_top_ok (G := G) z33), trivial⟩ trivial (fun w35 z40 hw36 hf37 m38 a41 b42 u43 => ?_)
      rw [u43.1]
      have u44 := u43.2 _ _ _ rfl rfl
      refine hx_is (s := 32) (l := 74) rfl rfl rfl hw hG6 g12 (by omega) (by omega) (hx_sg1 (fun _ _ _ => ⟨by omega, by omega⟩) (hx_sg1 (fun _ _ _ => ⟨by omega, by omega⟩) (hx_sg1 (fun _ _ _ => ⟨by omega, by omega⟩) (hx_sg1 (fun _ _ _ => ⟨by omega, by omega⟩) (hx_sg1 (fun _ _ _ => ⟨by omega, by omega⟩) (hx_sg1 (fun _ _ _ => ⟨by omega, by omega⟩) (hx_sg1 (fun _ _ _ => ⟨by omega, by omega⟩) (hx_sg1 (fun _ _ _ => ⟨by omega, by omega⟩) (hx_sg1 (fun _ _ _ => ⟨by omega, by omega⟩) hx_sg0))))))))) (fun w45 f46 g47 e48 o49 n50 hw51 n52 => ?_)
      have hs53 := ty_same_tr (ty_same_rf w) (n52 fz (hx_ok hfz (by decide)))
      have kp55 := hf.1.1 _ _ hG6 g12
      have kq56 : kb z22.toInt.toNat z40.toInt := ⟨⟨fun _ => by omega, fun _ _ _ => by omega, fun _ _ _ => by omega, fun _ => by omega⟩, fun _ _ => by omega, fun _ _ _ => by omega, fun _ => by omega, fun _ => by omega, fun _ => by omega, fun _ => by omega, fun _ => by omega, fun _ _ => by omega⟩
      have hf54 : F9 G F w45 := ⟨FM_k hf.1 hG6 g47 n50 (KP_up kp55 o49 (by rw [e48]; exact kq56) (by omega)), hF _ _ (smt_k (n52 prM (by decide)) g12 g47 n50 (fun j hj => o49 j (by omega))) hf.2⟩
      exact ax_ret rfl rfl trivial ⟨none, _, rfl, hw51, hf54, hs53, trivial, trivial⟩
    · -- 15
      refine ax_go 1 (y := (16, [some (.ref o), some (.int p), some (.int m), some (.int z14)], [.ref o], w, 0, 0)) rfl trivial ?_
      refine hx_gf (l := 19) rfl rfl rfl g2 e5 ?_
      refine hx_k (l := 21) (m := 69) rfl rfl (by decide) (fun z57 h58 => ?_)
      refine hx_k (l := 24) (m := 99999) rfl rfl (by decide) (fun z59 h60 => ?_)
      refine ax_go 1 (y := (25, [some (.ref o), some (.int p), some (.int m), some (.int z14)], [.ref o, .int z59, .int z57, .ref p4], w, 0, 0)) rfl trivial ?_
      refine hx_gf (l := 28) rfl rfl rfl g2 e5 ?_
      refine hx_k (l := 30) (m := 69) rfl rfl (by decide) (fun z61 h62 => ?_)
      refine hx_il (l := 31) rfl rfl g12 (by omega) (by omega) (fun z63 h64 => ?_)
      refine ax_go 1 (y := (32, [some (.ref o), some (.int p), some (.int m), some (.int z14)], [.int m, .int z63, .int z59, .int z57, .ref p4], w, 0, 0)) rfl trivial ?_
      refine hx_add (l := 33) rfl rfl (fun z65 h66 => ?_)
      refine hx_pi (l := 36) (as := [.int z59, .int z65]) rfl rfl rfl (hp_X9_lesser (fz := fz) hFF (fun q hq => (by decide +kernel : ∀ q ∈ fb_X9_arrives, q ∈ fb_hp_X9_lesser) q (hfz q hq)) (d + 0)) hw hf ⟨(ck_top_ok (G := G) z59), (ck_top_ok (G := G) z65), trivial⟩ trivial (fun w67 z72 hw68 hf69 m70 a73 b74 u75 => ?_)
      rw [u75.1]
      have u76 := u75.2 _ _ _ rfl rfl
      refine hx_is (s := 32) (l := 37) rfl rfl rfl hw hG6 g12 (by omega) (by omega) (hx_sg1 (fun _ _ _ => ⟨by omega, by omega⟩) (hx_sg1 (fun _ _ _ => ⟨by omega, by omega⟩) (hx_sg1 (fun _ _ _ => ⟨by omega, by omega⟩) (hx_sg1 (fun _ _ _ => ⟨by omega, by omega⟩) (hx_sg1 (fun _ _ _ => ⟨by omega, by omega⟩) (hx_sg1 (fun _ _ _ => ⟨by omega, by omega⟩) (hx_sg1 (fun _ _ _ => ⟨by omega, by omega⟩) (hx_sg1 (fun _ _ _ => ⟨by omega, by omega⟩) (hx_sg1 (fun _ _ _ => ⟨by omega, by omega⟩) hx_sg0))))))))) (fun w77 f78 g79 e80 o81 n82 hw83 n84 => ?_)
      have hs85 := ty_same_tr (ty_same_rf w) (n84 fz (hx_ok hfz (by decide)))
      have kp87 := hf.1.1 _ _ hG6 g12
      have kq88 : kb z57.toInt.toNat z72.toInt := ⟨⟨fun _ => by omega, fun _ _ _ => by omega, fun _ _ _ => by omega, fun _ => by omega⟩, fun _ _ => by omega, fun _ _ _ => by omega, fun _ => by omega, fun _ => by omega, fun _ => by omega, fun _ => by omega, fun _ => by omega, fun _ _ => by omega⟩
      have hf86 : F9 G F w77 := ⟨FM_k hf.1 hG6 g79 n82 (KP_up kp87 o81 (by rw [e80]; exact kq88) (by omega)), hF _ _ (smt_k (n84 prM (by decide)) g12 g79 n82 (fun j hj => o81 j (by omega))) hf.2⟩
      refine ax_go 2 (y := (39, [some (.ref o), some (.int p), some (.int m), some (.int z14)], [.ref o, .ref o], w77, 0, 0)) rfl trivial ?_
      obtain ⟨x89, e90, a91, b92⟩ := hx_fi (k := 31) (lo := (-2147483648)) (hi := 2147483647) q3 rfl
      refine hx_gf (l := 42) rfl rfl rfl ((n82 _ (hx_ne hG0 hG6 (by decide))).trans g2) e90 ?_
      refine ax_go 1 (y := (43, [some (.ref o), some (.int p), some (.int m), some (.int z14)], [.int m, .int x89, .ref o], w77, 0, 0)) rfl trivial ?_
      refine hx_add (l := 44) rfl rfl (fun z93 h94 => ?_)
      refine hx_pf (q := (0, 0, 0, 0, (-2147483648), 2147483647)) (s := 30) (l := 47) (v := .int z93) rfl rfl rfl (by decide) rfl rfl rfl hw83 hG0 ((n82 _ (hx_ne hG0 hG6 (by decide))).trans g2) trivial (ck_top_ok (G := G) z93) (fun w95 fs96 g97 e98 o99 n100 hw101 n102 => ?_)
      have hs103 := ty_same_tr hs85 (n102 fz (hx_ok hfz (by decide)))
      have hf104 := hFF _ _ (n102 pr_ (by decide)) hf86
      refine ax_go 1 (y := (74, [some (.ref o), some (.int p), some (.int m), some (.int z14)], [], w95, 0, 0)) rfl trivial ?_
      exact ax_ret rfl rfl trivial ⟨none, _, rfl, hw101, hf104, hs103, trivial, trivial⟩
def fb_hp_X9_canParish : List (Nat × Nat) := [(8, 3), (8, 5), (19, 999), (32, 999), (33, 999), (34, 999), (35, 999), (44, 999), (45, 999), (1, 0), (18, 999), (2, 11), (2, 14), (1, 15), (54, 11), (4, 2), (7, 9), (30, 13), (30, 34), (30, 2), (30, 22), (30, 23), (30, 24), (30, 25), (46, 999), (47, 999), (30, 35), (30, 36), (7, 0), (24, 999), (37, 999), (30, 4), (30, 5), (30, 6), (30, 8), (30, 9), (30, 10), (30, 11), (30, 14), (30, 15), (30, 16), (30, 17), (30, 18), (30, 19), (30, 20), (30, 21), (39, 999), (40, 999), (41, 999), (30, 30), (30, 42), (30, 43), (30, 44), (1, 1), (1, 3), (1, 10), (1, 13), (8, 0), (30, 49), (2, 15), (8, 1)]
set_option maxHeartbeats 8000000 in
theorem hp_X9_canParish {ro : ab_R} {G : Nat → Nat} {fz : List (Nat × Nat)} {F : ab_W → Prop} (hF : ∀ w w', smt G w w' → F w → F w') (hfz : ∀ q ∈ fz, q ∈ fb_hp_X9_canParish) (d : Nat) : hx_ct ro sp_ G (F9 G F) fz (ab_Ev ro ab_codes (d + 2)) 134 [(2, 30, 0), (0, (-2147483648), 2147483647), (0, (-2147483648), 2147483647)] (some (0, 0, 1)) (fun _ _ => True) (fun as w v w1 => w1 = w ∧ ∀ (o : Nat) (p c : Int32) (q : Nat) (f : Nat → Int32) (z : Int32), as = [.ref o, .int p, .int c] → hx_has w o 9 2 (.ref q) → w[q]? = some (.inl (0, 5721, .inl f)) → v = some (.int z) → ((z.toInt ≠ 0 → -1 ≤ p.toInt ∧ p.toInt < (f 110).toInt ∧ 0 ≤ c.toInt ∧ c.toInt ≤ 999) ∧ (-1 ≤ p.toInt ∧ p.toInt < (f 110).toInt ∧ 0 ≤ c.toInt ∧ c.toInt ≤ 999 → z.toInt = 1))) := by
  have hFF := F9_same hF
  refine hx_hand (d := d + 1) (by decide) (fun as w hw hf has hP => ?_)
  match as, has with
  | [v0, v1, v2], ⟨h0, h1, h2, _⟩ =>
    obtain ⟨o, rfl, _, hG0⟩ := ty_refn h0 rfl rfl
    replace hG0 : G o = 30 := hG0
    obtain ⟨p, rfl, hl1, hh1⟩ := ty_int h1 rfl
    replace hl1 : ((-2147483648) : Int) ≤ p.toInt := hl1
    replace hh1 : p.toInt ≤ 2147483647 := hh1
    obtain ⟨c, rfl, hl2, hh2⟩ := ty_int h2 rfl
    replace hl2 : ((-2147483648) : Int) ≤ c.toInt := hl2
    replace hh2 : c.toInt ≤ 2147483647 := hh2
    refine ⟨rfl, ?_⟩
    change ab_wp ro (ab_Ev ro ab_codes (d + 1)) 9 false (some .boolean) ab_k_X9_canParish (fun o_1 => ∃ v w1, o_1 = (v, w1, 0, 0) ∧ ty_w sp_ G w1 ∧ (F9 G F) w1 ∧ ty_same G fz w w1 ∧ ck_res G (some (0, 0, 1)) v ∧ (fun as w v w1 => w1 = w ∧ ∀ (o : Nat) (p c : Int32) (q : Nat) (f : Nat → Int32) (z : Int32), as = [.ref o, .int p, .int c] → hx_has w o 9 2 (.ref q) → w[q]? = some (.inl (0, 5721, .inl f)) → v = some (.int z) → ((z.toInt ≠ 0 → -1 ≤ p.toInt ∧ p.toInt < (f 110).toInt ∧ 0 ≤ c.toInt ∧ c.toInt ≤ 999) ∧ (-1 ≤ p.toInt ∧ p.toInt < (f 110).toInt ∧ 0 ≤ c.toInt ∧ c.toInt ≤ 999 → z.toInt = 1))) ([.ref o, .int p, .int c] : List Value) w v w1) (0, [some (.ref o), some (.int p), some (.int c)], [], w, 0, 0)
    refine ax_go 1 (y := (1, [some (.ref o), some (.int p), some (.int c)], [.int p], w, 0, 0)) rfl trivial ?_
    refine hx_k (l := 2) (m := (-1)) rfl rfl (by decide) (fun z1 h2 => ?_)
    refine ax_go 1 (y := (3, [some (.ref o), some (.int p), some (.int c)], [.ref o, .int z1, .int p], w, 0, 0)) rfl trivial ?_
    obtain ⟨fs3, g4, -, q5⟩ := hx_obj hw hG0 (s := 30) rfl (by decide)
    obtain ⟨p6, e7, hG8⟩ := hx_fr (k := 2) (s := 32) q5 rfl
    refine hx_gf (l := 6) rfl rfl rfl g4 e7 ?_
    refine hx_k (l := 8) (m := 110) rfl rfl (by decide) (fun z9 h10 => ?_)
    obtain ⟨f11, g12, r13⟩ := hx_row hw hG8 (s := 32) (kd := 0) (n := 5721) rfl (by decide)
    refine hx_il (l := 9) rfl rfl g12 (by omega) (by omega) (fun z14 h15 => ?_)
    have b16 := ((hf.1.1 _ _ hG8 g12).1 z9.toInt.toNat (by omega)).2.2.2.2.1 (by omega)
    rw [← h15] at b16
    rw [show z9.toInt.toNat = 110 by omega] at h15
    replace h15 := congrArg Int32.toInt h15
    refine hx_k (l := 10) (m := 1) rfl rfl (by decide) (fun z17 h18 => ?_)
    refine hx_sub (l := 11) rfl rfl (fun z19 h20 => ?_)
    replace h20 := h20 (by omega) (by omega)
    refine hx_pi (l := 14) (as := [.int p, .int z1, .int z19]) rfl rfl rfl (hp_X9_lies (fz := fz) hFF (fun q hq => (by decide +kernel : ∀ q ∈ fb_hp_X9_canParish, q ∈ fb_hp_X9_lies) q (hfz q hq)) (d + 0)) hw hf ⟨(ck_top_ok (G := G) p), (ck_top_ok (G := G) z1), (ck_top_ok (G := G) z19), trivial⟩ trivial (fun w21 z26 hw22 hf23 m24 a27 b28 u29 => ?_)
    rw [u29.1]
    have u30 := u29.2 _ _ _ _ rfl rfl
    clear u29
    refine hx_if_eq (l := 17) rfl rfl (fun h31 => ?_) (fun h31 => ?_)
    · -- 32
      replace u30 : ¬ (_ ∧ _) := fun hp => absurd (u30.2 hp) (by omega)
      refine hx_k (l := 33) (m := 0) rfl rfl (by decide) (fun z32 h33 => ?_)
      exact ax_ret rfl rfl ⟨hx_01 (by omega) (by omega), trivial⟩ ⟨some (.int z32), _, rfl, hw, hf, (ty_same_rf w), (hx_ti (G := G) (lo := 0) (hi := 1) (by omega) (by omega)), ⟨rfl, fun o1 p1 c1 q1 f1 z1 h1 h2 h3 h4 => by cases h1; cases h4; obtain ⟨fs1, g1, e1⟩ := h2; obtain rfl := hx_inj g4 g1; cases e7.symm.trans e1; obtain rfl := hx_injr g12 h3; exact ⟨fun hz => ⟨by omega, by omega, by omega, by omega⟩, fun hz => by omega⟩⟩⟩
    · -- 17
      replace u30 := u30.1 (by omega)
      refine ax_go 1 (y := (18, [some (.ref o), some (.int p), some (.int c)], [.int c], w, 0, 0)) rfl trivial ?_
      refine hx_k (l := 19) (m := 0) rfl rfl (by decide) (fun z34 h35 => ?_)
      refine hx_k (l := 22) (m := 999) rfl rfl (by decide) (fun z36 h37 => ?_)
      refine hx_pi (l := 25) (as := [.int c, .int z34, .int z36]) rfl rfl rfl (hp_X9_lies (fz := fz) hFF (fun q hq => (by decide +kernel : ∀ q ∈ fb_hp_X9_canParish, q ∈ fb_hp_X9_lies) q (hfz q hq)) (d + 0)) hw hf ⟨(ck_top_ok (G := G) c), (ck_top_ok (G := G) z34), (ck_top_ok (G := G) z36), trivial⟩ trivial (fun w38 z43 hw39 hf40 m41 a44 b45 u46 => ?_)
      rw [u46.1]
      have u47 := u46.2 _ _ _ _ rfl rfl
      clear u46
      refine hx_if_eq (l := 28) rfl rfl (fun h48 => ?_) (fun h48 => ?_)
      · -- 32
        replace u47 : ¬ (_ ∧ _) := fun hp => absurd (u47.2 hp) (by omega)
        refine hx_k (l := 33) (m := 0) rfl rfl (by decide) (fun z49 h50 => ?_)
        exact ax_ret rfl rfl ⟨hx_01 (by omega) (by omega), trivial⟩ ⟨some (.int z49), _, rfl, hw, hf, (ty_same_rf w), (hx_ti (G := G) (lo := 0) (hi := 1) (by omega) (by omega)), ⟨rfl, fun o1 p1 c1 q1 f1 z1 h1 h2 h3 h4 => by cases h1; cases h4; obtain ⟨fs1, g1, e1⟩ := h2; obtain rfl := hx_inj g4 g1; cases e7.symm.trans e1; obtain rfl := hx_injr g12 h3; exact ⟨fun hz => ⟨by omega, by omega, by omega, by omega⟩, fun hz => by omega⟩⟩⟩
      · -- 28
        replace u47 := u47.1 (by omega)
        refine hx_k (l := 29) (m := 1) rfl rfl (by decide) (fun z51 h52 => ?_)
        refine ax_go 1 (y := (33, [some (.ref o), some (.int p), some (.int c)], [.int z51], w, 0, 0)) rfl trivial ?_
        exact ax_ret rfl rfl ⟨hx_01 (by omega) (by omega), trivial⟩ ⟨some (.int z51), _, rfl, hw, hf, (ty_same_rf w), (hx_ti (G := G) (lo := 0) (hi := 1) (by omega) (by omega)), ⟨rfl, fun o1 p1 c1 q1 f1 z1 h1 h2 h3 h4 => by cases h1; cases h4; obtain ⟨fs1, g1, e1⟩ := h2; obtain rfl := hx_inj g4 g1; cases e7.symm.trans e1; obtain rfl := hx_injr g12 h3; exact ⟨fun hz => ⟨by omega, by omega, by omega, by omega⟩, fun hz => by omega⟩⟩⟩
