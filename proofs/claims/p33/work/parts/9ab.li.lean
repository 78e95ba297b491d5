/-! lies -/
def fb_X9_lies0 : List (Nat × Nat) := [(8, 3), (8, 5), (19, 999), (32, 999), (33, 999), (34, 999), (35, 999), (44, 999), (45, 999), (1, 0), (18, 999), (2, 11), (2, 14), (1, 15), (54, 11), (4, 2), (7, 9), (30, 13), (30, 34), (30, 2), (30, 22), (30, 23), (30, 24), (30, 25), (46, 999), (47, 999), (30, 35), (30, 36), (7, 0), (24, 999), (37, 999), (30, 4), (30, 5), (30, 6), (30, 8), (30, 9), (30, 10), (30, 11), (30, 14), (30, 15), (30, 16), (30, 17), (30, 18), (30, 19), (30, 20), (30, 21), (39, 999), (40, 999), (41, 999), (30, 30), (30, 42), (30, 43), (30, 44), (1, 1), (1, 3), (1, 10), (1, 13), (8, 0), (30, 49), (2, 15), (8, 1)]
set_option maxHeartbeats 8000000 in
theorem h_X9_lies0 {ro : ab_R} {G : Nat → Nat} {fz : List (Nat × Nat)} {F : ab_W → Prop} (hF : ∀ w w', ty_same G pr_ w w' → F w → F w') (hfz : ∀ q ∈ fz, q ∈ fb_X9_lies0) (d : Nat) : ck_ct ro sp_ G F fz (ab_Ev ro ab_codes (d + 1)) 120 [(0, (-2147483648), 2147483647), (0, 0, 0), (0, (-1), 15)] (some (0, 0, 1)) 1 10000000001015 := by
  refine ck_hand (d := d + 0) (by decide) (fun as w hw hf has => ?_)
  match as, has with
  | [v0, v1, v2], ⟨h0, h1, h2, _⟩ =>
    obtain ⟨p, rfl, hl0, hh0⟩ := ty_int h0 rfl
    replace hl0 : ((-2147483648) : Int) ≤ p.toInt := hl0
    replace hh0 : p.toInt ≤ 2147483647 := hh0
    obtain ⟨a, rfl, hl1, hh1⟩ := ty_int h1 rfl
    replace hl1 : (0 : Int) ≤ a.toInt := hl1
    replace hh1 : a.toInt ≤ 0 := hh1
    obtain ⟨b, rfl, hl2, hh2⟩ := ty_int h2 rfl
    replace hl2 : ((-1) : Int) ≤ b.toInt := hl2
    replace hh2 : b.toInt ≤ 15 := hh2
    refine ⟨rfl, ?_⟩
    change ab_wp ro (ab_Ev ro ab_codes d) 9 false (some .boolean) ab_k_X9_lies (fun o_1 => ∃ v w1, o_1 = (v, w1, 0, 0) ∧ ty_w sp_ G w1 ∧ F w1 ∧ ty_same G fz w w1 ∧ ck_res G (some (0, 0, 1)) v ∧ ck_wit 1 10000000001015 [.int p, .int a, .int b] v) (0, [some (.int p), some (.int a), some (.int b)], [], w, 0, 0)
    refine ax_go 2 (y := (2, [some (.int p), some (.int a), some (.int b)], [.int a, .int p], w, 0, 0)) rfl trivial ?_
    refine hx_ic_lt (l := 5) rfl rfl (fun h1 => ?_) (fun h1 => ?_)
    · -- 14
      refine hx_k (l := 15) (m := 0) rfl rfl (by decide) (fun z2 h3 => ?_)
      exact ax_ret rfl rfl ⟨hx_01 (by omega) (by omega), trivial⟩ ⟨some (.int z2), _, rfl, hw, hf, (ty_same_rf w), (hx_ti (G := G) (lo := 0) (hi := 1) (by omega) (by omega)), (hx_mkw (a := 0) (lo := 0) (hi := 15) rfl rfl (fun hz => ⟨by omega, by omega⟩))⟩
    · -- 5
      refine ax_go 2 (y := (7, [some (.int p), some (.int a), some (.int b)], [.int b, .int p], w, 0, 0)) rfl trivial ?_
      refine hx_ic_gt (l := 10) rfl rfl (fun h4 => ?_) (fun h4 => ?_)
      · -- 14
        refine hx_k (l := 15) (m := 0) rfl rfl (by decide) (fun z5 h6 => ?_)
        exact ax_ret rfl rfl ⟨hx_01 (by omega) (by omega), trivial⟩ ⟨some (.int z5), _, rfl, hw, hf, (ty_same_rf w), (hx_ti (G := G) (lo := 0) (hi := 1) (by omega) (by omega)), (hx_mkw (a := 0) (lo := 0) (hi := 15) rfl rfl (fun hz => ⟨by omega, by omega⟩))⟩
      · -- 10
        refine hx_k (l := 11) (m := 1) rfl rfl (by decide) (fun z7 h8 => ?_)
        refine ax_go 1 (y := (15, [some (.int p), some (.int a), some (.int b)], [.int z7], w, 0, 0)) rfl trivial ?_
        exact ax_ret rfl rfl ⟨hx_01 (by omega) (by omega), trivial⟩ ⟨some (.int z7), _, rfl, hw, hf, (ty_same_rf w), (hx_ti (G := G) (lo := 0) (hi := 1) (by omega) (by omega)), (hx_mkw (a := 0) (lo := 0) (hi := 15) rfl rfl (fun hz => ⟨by omega, by omega⟩))⟩
def fb_X9_lies1 : List (Nat × Nat) := [(8, 3), (8, 5), (19, 999), (32, 999), (33, 999), (34, 999), (35, 999), (44, 999), (45, 999), (1, 0), (18, 999), (2, 11), (2, 14), (1, 15), (54, 11), (4, 2), (7, 9), (30, 13), (30, 34), (30, 2), (30, 22), (30, 23), (30, 24), (30, 25), (46, 999), (47, 999), (30, 35), (30, 36), (7, 0), (24, 999), (37, 999), (30, 4), (30, 5), (30, 6), (30, 8), (30, 9), (30, 10), (30, 11), (30, 14), (30, 15), (30, 16), (30, 17), (30, 18), (30, 19), (30, 20), (30, 21), (39, 999), (40, 999), (41, 999), (30, 30), (30, 42), (30, 43), (30, 44), (1, 1), (1, 3), (1, 10), (1, 13), (8, 0), (30, 49), (2, 15), (8, 1)]
set_option maxHeartbeats 8000000 in
theorem h_X9_lies1 {ro : ab_R} {G : Nat → Nat} {fz : List (Nat × Nat)} {F : ab_W → Prop} (hF : ∀ w w', ty_same G pr_ w w' → F w → F w') (hfz : ∀ q ∈ fz, q ∈ fb_X9_lies1) (d : Nat) : ck_ct ro sp_ G F fz (ab_Ev ro ab_codes (d + 1)) 120 [(0, (-2147483648), 2147483647), (0, 0, 0), (0, 2, 2)] (some (0, 0, 1)) 1 10000000001002 := by
  refine ck_hand (d := d + 0) (by decide) (fun as w hw hf has => ?_)
  match as, has with
  | [v0, v1, v2], ⟨h0, h1, h2, _⟩ =>
    obtain ⟨p, rfl, hl0, hh0⟩ := ty_int h0 rfl
    replace hl0 : ((-2147483648) : Int) ≤ p.toInt := hl0
    replace hh0 : p.toInt ≤ 2147483647 := hh0
    obtain ⟨a, rfl, hl1, hh1⟩ := ty_int h1 rfl
    replace hl1 : (0 : Int) ≤ a.toInt := hl1
    replace hh1 : a.toInt ≤ 0 := hh1
    obtain ⟨b, rfl, hl2, hh2⟩ := ty_int h2 rfl
    replace hl2 : (2 : Int) ≤ b.toInt := hl2
    replace hh2 : b.toInt ≤ 2 := hh2
    refine ⟨rfl, ?_⟩
    change ab_wp ro (ab_Ev ro ab_codes d) 9 false (some .boolean) ab_k_X9_lies (fun o_1 => ∃ v w1, o_1 = (v, w1, 0, 0) ∧ ty_w sp_ G w1 ∧ F w1 ∧ ty_same G fz w w1 ∧ ck_res G (some (0, 0, 1)) v ∧ ck_wit 1 10000000001002 [.int p, .int a, .int b] v) (0, [some (.int p), some (.int a), some (.int b)], [], w, 0, 0)
    refine ax_go 2 (y := (2, [some (.int p), some (.int a), some (.int b)], [.int a, .int p], w, 0, 0)) rfl trivial ?_
    refine hx_ic_lt (l := 5) rfl rfl (fun h1 => ?_) (fun h1 => ?_)
    · -- 14
      refine hx_k (l := 15) (m := 0) rfl rfl (by decide) (fun z2 h3 => ?_)
      exact ax_ret rfl rfl ⟨hx_01 (by omega) (by omega), trivial⟩ ⟨some (.int z2), _, rfl, hw, hf, (ty_same_rf w), (hx_ti (G := G) (lo := 0) (hi := 1) (by omega) (by omega)), (hx_mkw (a := 0) (lo := 0) (hi := 2) rfl rfl (fun hz => ⟨by omega, by omega⟩))⟩
    · -- 5
      refine ax_go 2 (y := (7, [some (.int p), some (.int a), some (.int b)], [.int b, .int p], w, 0, 0)) rfl trivial ?_
      refine hx_ic_gt (l := 10) rfl rfl (fun h4 => ?_) (fun h4 => ?_)
      · -- 14
        refine hx_k (l := 15) (m := 0) rfl rfl (by decide) (fun z5 h6 => ?_)
        exact ax_ret rfl rfl ⟨hx_01 (by omega) (by omega), trivial⟩ ⟨some (.int z5), _, rfl, hw, hf, (ty_same_rf w), (hx_ti (G := G) (lo := 0) (hi := 1) (by omega) (by omega)), (hx_mkw (a := 0) (lo := 0) (hi := 2) rfl rfl (fun hz => ⟨by omega, by omega⟩))⟩
      · -- 10
        refine hx_k (l := 11) (m := 1) rfl rfl (by decide) (fun z7 h8 => ?_)
        refine ax_go 1 (y := (15, [some (.int p), some (.int a), some (.int b)], [.int z7], w, 0, 0)) rfl trivial ?_
        exact ax_ret rfl rfl ⟨hx_01 (by omega) (by omega), trivial⟩ ⟨some (.int z7), _, rfl, hw, hf, (ty_same_rf w), (hx_ti (G := G) (lo := 0) (hi := 1) (by omega) (by omega)), (hx_mkw (a := 0) (lo := 0) (hi := 2) rfl rfl (fun hz => ⟨by omega, by omega⟩))⟩
def fb_X9_lies2 : List (Nat × Nat) := [(8, 3), (8, 5), (19, 999), (32, 999), (33, 999), (34, 999), (35, 999), (44, 999), (45, 999), (1, 0), (18, 999), (2, 11), (2, 14), (1, 15), (54, 11), (4, 2), (7, 9), (30, 13), (30, 34), (30, 2), (30, 22), (30, 23), (30, 24), (30, 25), (46, 999), (47, 999), (30, 35), (30, 36), (7, 0), (24, 999), (37, 999), (30, 4), (30, 5), (30, 6), (30, 8), (30, 9), (30, 10), (30, 11), (30, 14), (30, 15), (30, 16), (30, 17), (30, 18), (30, 19), (30, 20), (30, 21), (39, 999), (40, 999), (41, 999), (30, 30), (30, 42), (30, 43), (30, 44), (1, 1), (1, 3), (1, 10), (1, 13), (8, 0), (30, 49), (2, 15), (8, 1)]
set_option maxHeartbeats 8000000 in
theorem h_X9_lies2 {ro : ab_R} {G : Nat → Nat} {fz : List (Nat × Nat)} {F : ab_W → Prop} (hF : ∀ w w', ty_same G pr_ w w' → F w → F w') (hfz : ∀ q ∈ fz, q ∈ fb_X9_lies2) (d : Nat) : ck_ct ro sp_ G F fz (ab_Ev ro ab_codes (d + 1)) 120 [(0, (-2147483648), 2147483647), (0, 0, 0), (0, 0, 400)] (some (0, 0, 1)) 1 10000000001400 := by
  refine ck_hand (d := d + 0) (by decide) (fun as w hw hf has => ?_)
  match as, has with
  | [v0, v1, v2], ⟨h0, h1, h2, _⟩ =>
    obtain ⟨p, rfl, hl0, hh0⟩ := ty_int h0 rfl
    replace hl0 : ((-2147483648) : Int) ≤ p.toInt := hl0
    replace hh0 : p.toInt ≤ 2147483647 := hh0
    obtain ⟨a, rfl, hl1, hh1⟩ := ty_int h1 rfl
    replace hl1 : (0 : Int) ≤ a.toInt := hl1
    replace hh1 : a.toInt ≤ 0 := hh1
    obtain ⟨b, rfl, hl2, hh2⟩ := ty_int h2 rfl
    replace hl2 : (0 : Int) ≤ b.toInt := hl2
    replace hh2 : b.toInt ≤ 400 := hh2
    refine ⟨rfl, ?_⟩
    change ab_wp ro (ab_Ev ro ab_codes d) 9 false (some .boolean) ab_k_X9_lies (fun o_1 => ∃ v w1, o_1 = (v, w1, 0, 0) ∧ ty_w sp_ G w1 ∧ F w1 ∧ ty_same G fz w w1 ∧ ck_res G (some (0, 0, 1)) v ∧ ck_wit 1 10000000001400 [.int p, .int a, .int b] v) (0, [some (.int p), some (.int a), some (.int b)], [], w, 0, 0)
    refine ax_go 2 (y := (2, [some (.int p), some (.int a), some (.int b)], [.int a, .int p], w, 0, 0)) rfl trivial ?_
    refine hx_ic_lt (l := 5) rfl rfl (fun h1 => ?_) (fun h1 => ?_)
    · -- 14
      refine hx_k (l := 15) (m := 0) rfl rfl (by decide) (fun z2 h3 => ?_)
      exact ax_ret rfl rfl ⟨hx_01 (by omega) (by omega), trivial⟩ ⟨some (.int z2), _, rfl, hw, hf, (ty_same_rf w), (hx_ti (G := G) (lo := 0) (hi := 1) (by omega) (by omega)), (hx_mkw (a := 0) (lo := 0) (hi := 400) rfl rfl (fun hz => ⟨by omega, by omega⟩))⟩
    · -- 5
      refine ax_go 2 (y := (7, [some (.int p), some (.int a), some (.int b)], [.int b, .int p], w, 0, 0)) rfl trivial ?_
      refine hx_ic_gt (l := 10) rfl rfl (fun h4 => ?_) (fun h4 => ?_)
      · -- 14
        refine hx_k (l := 15) (m := 0) rfl rfl (by decide) (fun z5 h6 => ?_)
        exact ax_ret rfl rfl ⟨hx_01 (by omega) (by omega), trivial⟩ ⟨some (.int z5), _, rfl, hw, hf, (ty_same_rf w), (hx_ti (G := G) (lo := 0) (hi := 1) (by omega) (by omega)), (hx_mkw (a := 0) (lo := 0) (hi := 400) rfl rfl (fun hz => ⟨by omega, by omega⟩))⟩
      · -- 10
        refine hx_k (l := 11) (m := 1) rfl rfl (by decide) (fun z7 h8 => ?_)
        refine ax_go 1 (y := (15, [some (.int p), some (.int a), some (.int b)], [.int z7], w, 0, 0)) rfl trivial ?_
        exact ax_ret rfl rfl ⟨hx_01 (by omega) (by omega), trivial⟩ ⟨some (.int z7), _, rfl, hw, hf, (ty_same_rf w), (hx_ti (G := G) (lo := 0) (hi := 1) (by omega) (by omega)), (hx_mkw (a := 0) (lo := 0) (hi := 400) rfl rfl (fun hz => ⟨by omega, by omega⟩))⟩
def fb_X9_lies3 : List (Nat × Nat) := [(8, 3), (8, 5), (19, 999), (32, 999), (33, 999), (34, 999), (35, 999), (44, 999), (45, 999), (1, 0), (18, 999), (2, 11), (2, 14), (1, 15), (54, 11), (4, 2), (7, 9), (30, 13), (30, 34), (30, 2), (30, 22), (30, 23), (30, 24), (30, 25), (46, 999), (47, 999), (30, 35), (30, 36), (7, 0), (24, 999), (37, 999), (30, 4), (30, 5), (30, 6), (30, 8), (30, 9), (30, 10), (30, 11), (30, 14), (30, 15), (30, 16), (30, 17), (30, 18), (30, 19), (30, 20), (30, 21), (39, 999), (40, 999), (41, 999), (30, 30), (30, 42), (30, 43), (30, 44), (1, 1), (1, 3), (1, 10), (1, 13), (8, 0), (30, 49), (2, 15), (8, 1)]
set_option maxHeartbeats 8000000 in
theorem h_X9_lies3 {ro : ab_R} {G : Nat → Nat} {fz : List (Nat × Nat)} {F : ab_W → Prop} (hF : ∀ w w', ty_same G pr_ w w' → F w → F w') (hfz : ∀ q ∈ fz, q ∈ fb_X9_lies3) (d : Nat) : ck_ct ro sp_ G F fz (ab_Ev ro ab_codes (d + 1)) 120 [(0, (-2147483648), 2147483647), (0, 0, 0), (0, 1, 1)] (some (0, 0, 1)) 1 10000000001001 := by
  refine ck_hand (d := d + 0) (by decide) (fun as w hw hf has => ?_)
  match as, has with
  | [v0, v1, v2], ⟨h0, h1, h2, _⟩ =>
    obtain ⟨p, rfl, hl0, hh0⟩ := ty_int h0 rfl
    replace hl0 : ((-2147483648) : Int) ≤ p.toInt := hl0
    replace hh0 : p.toInt ≤ 2147483647 := hh0
    obtain ⟨a, rfl, hl1, hh1⟩ := ty_int h1 rfl
    replace hl1 : (0 : Int) ≤ a.toInt := hl1
    replace hh1 : a.toInt ≤ 0 := hh1
    obtain ⟨b, rfl, hl2, hh2⟩ := ty_int h2 rfl
    replace hl2 : (1 : Int) ≤ b.toInt := hl2
    replace hh2 : b.toInt ≤ 1 := hh2
    refine ⟨rfl, ?_⟩
    change ab_wp ro (ab_Ev ro ab_codes d) 9 false (some .boolean) ab_k_X9_lies (fun o_1 => ∃ v w1, o_1 = (v, w1, 0, 0) ∧ ty_w sp_ G w1 ∧ F w1 ∧ ty_same G fz w w1 ∧ ck_res G (some (0, 0, 1)) v ∧ ck_wit 1 10000000001001 [.int p, .int a, .int b] v) (0, [some (.int p), some (.int a), some (.int b)], [], w, 0, 0)
    refine ax_go 2 (y := (2, [some (.int p), some (.int a), some (.int b)], [.int a, .int p], w, 0, 0)) rfl trivial ?_
    refine hx_ic_lt (l := 5) rfl rfl (fun h1 => ?_) (fun h1 => ?_)
    · -- 14
      refine hx_k (l := 15) (m := 0) rfl rfl (by decide) (fun z2 h3 => ?_)
      exact ax_ret rfl rfl ⟨hx_01 (by omega) (by omega), trivial⟩ ⟨some (.int z2), _, rfl, hw, hf, (ty_same_rf w), (hx_ti (G := G) (lo := 0) (hi := 1) (by omega) (by omega)), (hx_mkw (a := 0) (lo := 0) (hi := 1) rfl rfl (fun hz => ⟨by omega, by omega⟩))⟩
    · -- 5
      refine ax_go 2 (y := (7, [some (.int p), some (.int a), some (.int b)], [.int b, .int p], w, 0, 0)) rfl trivial ?_
      refine hx_ic_gt (l := 10) rfl rfl (fun h4 => ?_) (fun h4 => ?_)
      · -- 14
        refine hx_k (l := 15) (m := 0) rfl rfl (by decide) (fun z5 h6 => ?_)
        exact ax_ret rfl rfl ⟨hx_01 (by omega) (by omega), trivial⟩ ⟨some (.int z5), _, rfl, hw, hf, (ty_same_rf w), (hx_ti (G := G) (lo := 0) (hi := 1) (by omega) (by omega)), (hx_mkw (a := 0) (lo := 0) (hi := 1) rfl rfl (fun hz => ⟨by omega, by omega⟩))⟩
      · -- 10
        refine hx_k (l := 11) (m := 1) rfl rfl (by decide) (fun z7 h8 => ?_)
        refine ax_go 1 (y := (15, [some (.int p), some (.int a), some (.int b)], [.int z7], w, 0, 0)) rfl trivial ?_
        exact ax_ret rfl rfl ⟨hx_01 (by omega) (by omega), trivial⟩ ⟨some (.int z7), _, rfl, hw, hf, (ty_same_rf w), (hx_ti (G := G) (lo := 0) (hi := 1) (by omega) (by omega)), (hx_mkw (a := 0) (lo := 0) (hi := 1) rfl rfl (fun hz => ⟨by omega, by omega⟩))⟩
def fb_X9_lies4 : List (Nat × Nat) := [(8, 3), (8, 5), (19, 999), (32, 999), (33, 999), (34, 999), (35, 999), (44, 999), (45, 999), (1, 0), (18, 999), (2, 11), (2, 14), (1, 15), (54, 11), (4, 2), (7, 9), (30, 13), (30, 34), (30, 2), (30, 22), (30, 23), (30, 24), (30, 25), (46, 999), (47, 999), (30, 35), (30, 36), (7, 0), (24, 999), (37, 999), (30, 4), (30, 5), (30, 6), (30, 8), (30, 9), (30, 10), (30, 11), (30, 14), (30, 15), (30, 16), (30, 17), (30, 18), (30, 19), (30, 20), (30, 21), (39, 999), (40, 999), (41, 999), (30, 30), (30, 42), (30, 43), (30, 44), (1, 1), (1, 3), (1, 10), (1, 13), (8, 0), (30, 49), (2, 15), (8, 1)]
set_option maxHeartbeats 8000000 in
theorem h_X9_lies4 {ro : ab_R} {G : Nat → Nat} {fz : List (Nat × Nat)} {F : ab_W → Prop} (hF : ∀ w w', ty_same G pr_ w w' → F w → F w') (hfz : ∀ q ∈ fz, q ∈ fb_X9_lies4) (d : Nat) : ck_ct ro sp_ G F fz (ab_Ev ro ab_codes (d + 1)) 120 [(0, (-2147483648), 2147483647), (0, 0, 0), (0, 0, 10)] (some (0, 0, 1)) 1 10000000001010 := by
  refine ck_hand (d := d + 0) (by decide) (fun as w hw hf has => ?_)
  match as, has with
  | [v0, v1, v2], ⟨h0, h1, h2, _⟩ =>
    obtain ⟨p, rfl, hl0, hh0⟩ := ty_int h0 rfl
    replace hl0 : ((-2147483648) : Int) ≤ p.toInt := hl0
    replace hh0 : p.toInt ≤ 2147483647 := hh0
    obtain ⟨a, rfl, hl1, hh1⟩ := ty_int h1 rfl
    replace hl1 : (0 : Int) ≤ a.toInt := hl1
    replace hh1 : a.toInt ≤ 0 := hh1
    obtain ⟨b, rfl, hl2, hh2⟩ := ty_int h2 rfl
    replace hl2 : (0 : Int) ≤ b.toInt := hl2
    replace hh2 : b.toInt ≤ 10 := hh2
    refine ⟨rfl, ?_⟩
    change ab_wp ro (ab_Ev ro ab_codes d) 9 false (some .boolean) ab_k_X9_lies (fun o_1 => ∃ v w1, o_1 = (v, w1, 0, 0) ∧ ty_w sp_ G w1 ∧ F w1 ∧ ty_same G fz w w1 ∧ ck_res G (some (0, 0, 1)) v ∧ ck_wit 1 10000000001010 [.int p, .int a, .int b] v) (0, [some (.int p), some (.int a), some (.int b)], [], w, 0, 0)
    refine ax_go 2 (y := (2, [some (.int p), some (.int a), some (.int b)], [.int a, .int p], w, 0, 0)) rfl trivial ?_
    refine hx_ic_lt (l := 5) rfl rfl (fun h1 => ?_) (fun h1 => ?_)
    · -- 14
      refine hx_k (l := 15) (m := 0) rfl rfl (by decide) (fun z2 h3 => ?_)
      exact ax_ret rfl rfl ⟨hx_01 (by omega) (by omega), trivial⟩ ⟨some (.int z2), _, rfl, hw, hf, (ty_same_rf w), (hx_ti (G := G) (lo := 0) (hi := 1) (by omega) (by omega)), (hx_mkw (a := 0) (lo := 0) (hi := 10) rfl rfl (fun hz => ⟨by omega, by omega⟩))⟩
    · -- 5
      refine ax_go 2 (y := (7, [some (.int p), some (.int a), some (.int b)], [.int b, .int p], w, 0, 0)) rfl trivial ?_
      refine hx_ic_gt (l := 10) rfl rfl (fun h4 => ?_) (fun h4 => ?_)
      · -- 14
        refine hx_k (l := 15) (m := 0) rfl rfl (by decide) (fun z5 h6 => ?_)
        exact ax_ret rfl rfl ⟨hx_01 (by omega) (by omega), trivial⟩ ⟨some (.int z5), _, rfl, hw, hf, (ty_same_rf w), (hx_ti (G := G) (lo := 0) (hi := 1) (by omega) (by omega)), (hx_mkw (a := 0) (lo := 0) (hi := 10) rfl rfl (fun hz => ⟨by omega, by omega⟩))⟩
      · -- 10
        refine hx_k (l := 11) (m := 1) rfl rfl (by decide) (fun z7 h8 => ?_)
        refine ax_go 1 (y := (15, [some (.int p), some (.int a), some (.int b)], [.int z7], w, 0, 0)) rfl trivial ?_
        exact ax_ret rfl rfl ⟨hx_01 (by omega) (by omega), trivial⟩ ⟨some (.int z7), _, rfl, hw, hf, (ty_same_rf w), (hx_ti (G := G) (lo := 0) (hi := 1) (by omega) (by omega)), (hx_mkw (a := 0) (lo := 0) (hi := 10) rfl rfl (fun hz => ⟨by omega, by omega⟩))⟩
def fb_X9_lies5 : List (Nat × Nat) := [(8, 3), (8, 5), (19, 999), (32, 999), (33, 999), (34, 999), (35, 999), (44, 999), (45, 999), (1, 0), (18, 999), (2, 11), (2, 14), (1, 15), (54, 11), (4, 2), (7, 9), (30, 13), (30, 34), (30, 2), (30, 22), (30, 23), (30, 24), (30, 25), (46, 999), (47, 999), (30, 35), (30, 36), (7, 0), (24, 999), (37, 999), (30, 4), (30, 5), (30, 6), (30, 8), (30, 9), (30, 10), (30, 11), (30, 14), (30, 15), (30, 16), (30, 17), (30, 18), (30, 19), (30, 20), (30, 21), (39, 999), (40, 999), (41, 999), (30, 30), (30, 42), (30, 43), (30, 44), (1, 1), (1, 3), (1, 10), (1, 13), (8, 0), (30, 49), (2, 15), (8, 1)]
set_option maxHeartbeats 8000000 in
theorem h_X9_lies5 {ro : ab_R} {G : Nat → Nat} {fz : List (Nat × Nat)} {F : ab_W → Prop} (hF : ∀ w w', ty_same G pr_ w w' → F w → F w') (hfz : ∀ q ∈ fz, q ∈ fb_X9_lies5) (d : Nat) : ck_ct ro sp_ G F fz (ab_Ev ro ab_codes (d + 1)) 120 [(0, (-2147483648), 2147483647), (0, 0, 0), (0, 60, 60)] (some (0, 0, 1)) 1 10000000001060 := by
  refine ck_hand (d := d + 0) (by decide) (fun as w hw hf has => ?_)
  match as, has with
  | [v0, v1, v2], ⟨h0, h1, h2, _⟩ =>
    obtain ⟨p, rfl, hl0, hh0⟩ := ty_int h0 rfl
    replace hl0 : ((-2147483648) : Int) ≤ p.toInt := hl0
    replace hh0 : p.toInt ≤ 2147483647 := hh0
    obtain ⟨a, rfl, hl1, hh1⟩ := ty_int h1 rfl
    replace hl1 : (0 : Int) ≤ a.toInt := hl1
    replace hh1 : a.toInt ≤ 0 := hh1
    obtain ⟨b, rfl, hl2, hh2⟩ := ty_int h2 rfl
    replace hl2 : (60 : Int) ≤ b.toInt := hl2
    replace hh2 : b.toInt ≤ 60 := hh2
    refine ⟨rfl, ?_⟩
    change ab_wp ro (ab_Ev ro ab_codes d) 9 false (some .boolean) ab_k_X9_lies (fun o_1 => ∃ v w1, o_1 = (v, w1, 0, 0) ∧ ty_w sp_ G w1 ∧ F w1 ∧ ty_same G fz w w1 ∧ ck_res G (some (0, 0, 1)) v ∧ ck_wit 1 10000000001060 [.int p, .int a, .int b] v) (0, [some (.int p), some (.int a), some (.int b)], [], w, 0, 0)
    refine ax_go 2 (y := (2, [some (.int p), some (.int a), some (.int b)], [.int a, .int p], w, 0, 0)) rfl trivial ?_
    refine hx_ic_lt (l := 5) rfl rfl (fun h1 => ?_) (fun h1 => ?_)
    · -- 14
      refine hx_k (l := 15) (m := 0) rfl rfl (by decide) (fun z2 h3 => ?_)
      exact ax_ret rfl rfl ⟨hx_01 (by omega) (by omega), trivial⟩ ⟨some (.int z2), _, rfl, hw, hf, (ty_same_rf w), (hx_ti (G := G) (lo := 0) (hi := 1) (by omega) (by omega)), (hx_mkw (a := 0) (lo := 0) (hi := 60) rfl rfl (fun hz => ⟨by omega, by omega⟩))⟩
    · -- 5
      refine ax_go 2 (y := (7, [some (.int p), some (.int a), some (.int b)], [.int b, .int p], w, 0, 0)) rfl trivial ?_
      refine hx_ic_gt (l := 10) rfl rfl (fun h4 => ?_) (fun h4 => ?_)
      · -- 14
        refine hx_k (l := 15) (m := 0) rfl rfl (by decide) (fun z5 h6 => ?_)
        exact ax_ret rfl rfl ⟨hx_01 (by omega) (by omega), trivial⟩ ⟨some (.int z5), _, rfl, hw, hf, (ty_same_rf w), (hx_ti (G := G) (lo := 0) (hi := 1) (by omega) (by omega)), (hx_mkw (a := 0) (lo := 0) (hi := 60) rfl rfl (fun hz => ⟨by omega, by omega⟩))⟩
      · -- 10
        refine hx_k (l := 11) (m := 1) rfl rfl (by decide) (fun z7 h8 => ?_)
        refine ax_go 1 (y := (15, [some (.int p), some (.int a), some (.int b)], [.int z7], w, 0, 0)) rfl trivial ?_
        exact ax_ret rfl rfl ⟨hx_01 (by omega) (by omega), trivial⟩ ⟨some (.int z7), _, rfl, hw, hf, (ty_same_rf w), (hx_ti (G := G) (lo := 0) (hi := 1) (by omega) (by omega)), (hx_mkw (a := 0) (lo := 0) (hi := 60) rfl rfl (fun hz => ⟨by omega, by omega⟩))⟩
def fb_X9_lies6 : List (Nat × Nat) := [(8, 3), (8, 5), (19, 999), (32, 999), (33, 999), (34, 999), (35, 999), (44, 999), (45, 999), (1, 0), (18, 999), (2, 11), (2, 14), (1, 15), (54, 11), (4, 2), (7, 9), (30, 13), (30, 34), (30, 2), (30, 22), (30, 23), (30, 24), (30, 25), (46, 999), (47, 999), (30, 35), (30, 36), (7, 0), (24, 999), (37, 999), (30, 4), (30, 5), (30, 6), (30, 8), (30, 9), (30, 10), (30, 11), (30, 14), (30, 15), (30, 16), (30, 17), (30, 18), (30, 19), (30, 20), (30, 21), (39, 999), (40, 999), (41, 999), (30, 30), (30, 42), (30, 43), (30, 44), (1, 1), (1, 3), (1, 10), (1, 13), (8, 0), (30, 49), (2, 15), (8, 1)]
set_option maxHeartbeats 8000000 in
theorem h_X9_lies6 {ro : ab_R} {G : Nat → Nat} {fz : List (Nat × Nat)} {F : ab_W → Prop} (hF : ∀ w w', ty_same G pr_ w w' → F w → F w') (hfz : ∀ q ∈ fz, q ∈ fb_X9_lies6) (d : Nat) : ck_ct ro sp_ G F fz (ab_Ev ro ab_codes (d + 1)) 120 [(0, (-2147483648), 2147483647), (0, 0, 0), (0, 98, 98)] (some (0, 0, 1)) 1 10000000001098 := by
  refine ck_hand (d := d + 0) (by decide) (fun as w hw hf has => ?_)
  match as, has with
  | [v0, v1, v2], ⟨h0, h1, h2, _⟩ =>
    obtain ⟨p, rfl, hl0, hh0⟩ := ty_int h0 rfl
    replace hl0 : ((-2147483648) : Int) ≤ p.toInt := hl0
    replace hh0 : p.toInt ≤ 2147483647 := hh0
    obtain ⟨a, rfl, hl1, hh1⟩ := ty_int h1 rfl
    replace hl1 : (0 : Int) ≤ a.toInt := hl1
    replace hh1 : a.toInt ≤ 0 := hh1
    obtain ⟨b, rfl, hl2, hh2⟩ := ty_int h2 rfl
    replace hl2 : (98 : Int) ≤ b.toInt := hl2
    replace hh2 : b.toInt ≤ 98 := hh2
    refine ⟨rfl, ?_⟩
    change ab_wp ro (ab_Ev ro ab_codes d) 9 false (some .boolean) ab_k_X9_lies (fun o_1 => ∃ v w1, o_1 = (v, w1, 0, 0) ∧ ty_w sp_ G w1 ∧ F w1 ∧ ty_same G fz w w1 ∧ ck_res G (some (0, 0, 1)) v ∧ ck_wit 1 10000000001098 [.int p, .int a, .int b] v) (0, [some (.int p), some (.int a), some (.int b)], [], w, 0, 0)
    refine ax_go 2 (y := (2, [some (.int p), some (.int a), some (.int b)], [.int a, .int p], w, 0, 0)) rfl trivial ?_
    refine hx_ic_lt (l := 5) rfl rfl (fun h1 => ?_) (fun h1 => ?_)
    · -- 14
      refine hx_k (l := 15) (m := 0) rfl rfl (by decide) (fun z2 h3 => ?_)
      exact ax_ret rfl rfl ⟨hx_01 (by omega) (by omega), trivial⟩ ⟨some (.int z2), _, rfl, hw, hf, (ty_same_rf w), (hx_ti (G := G) (lo := 0) (hi := 1) (by omega) (by omega)), (hx_mkw (a := 0) (lo := 0) (hi := 98) rfl rfl (fun hz => ⟨by omega, by omega⟩))⟩
    · -- 5
      refine ax_go 2 (y := (7, [some (.int p), some (.int a), some (.int b)], [.int b, .int p], w, 0, 0)) rfl trivial ?_
      refine hx_ic_gt (l := 10) rfl rfl (fun h4 => ?_) (fun h4 => ?_)
      · -- 14
        refine hx_k (l := 15) (m := 0) rfl rfl (by decide) (fun z5 h6 => ?_)
        exact ax_ret rfl rfl ⟨hx_01 (by omega) (by omega), trivial⟩ ⟨some (.int z5), _, rfl, hw, hf, (ty_same_rf w), (hx_ti (G := G) (lo := 0) (hi := 1) (by omega) (by omega)), (hx_mkw (a := 0) (lo := 0) (hi := 98) rfl rfl (fun hz => ⟨by omega, by omega⟩))⟩
      · -- 10
        refine hx_k (l := 11) (m := 1) rfl rfl (by decide) (fun z7 h8 => ?_)
        refine ax_go 1 (y := (15, [some (.int p), some (.int a), some (.int b)], [.int z7], w, 0, 0)) rfl trivial ?_
        exact ax_ret rfl rfl ⟨hx_01 (by omega) (by omega), trivial⟩ ⟨some (.int z7), _, rfl, hw, hf, (ty_same_rf w), (hx_ti (G := G) (lo := 0) (hi := 1) (by omega) (by omega)), (hx_mkw (a := 0) (lo := 0) (hi := 98) rfl rfl (fun hz => ⟨by omega, by omega⟩))⟩
def fb_X9_lies7 : List (Nat × Nat) := [(8, 3), (8, 5), (19, 999), (32, 999), (33, 999), (34, 999), (35, 999), (44, 999), (45, 999), (1, 0), (18, 999), (2, 11), (2, 14), (1, 15), (54, 11), (4, 2), (7, 9), (30, 13), (30, 34), (30, 2), (30, 22), (30, 23), (30, 24), (30, 25), (46, 999), (47, 999), (30, 35), (30, 36), (7, 0), (24, 999), (37, 999), (30, 4), (30, 5), (30, 6), (30, 8), (30, 9), (30, 10), (30, 11), (30, 14), (30, 15), (30, 16), (30, 17), (30, 18), (30, 19), (30, 20), (30, 21), (39, 999), (40, 999), (41, 999), (30, 30), (30, 42), (30, 43), (30, 44), (1, 1), (1, 3), (1, 10), (1, 13), (8, 0), (30, 49), (2, 15), (8, 1)]
set_option maxHeartbeats 8000000 in
theorem h_X9_lies7 {ro : ab_R} {G : Nat → Nat} {fz : List (Nat × Nat)} {F : ab_W → Prop} (hF : ∀ w w', ty_same G pr_ w w' → F w → F w') (hfz : ∀ q ∈ fz, q ∈ fb_X9_lies7) (d : Nat) : ck_ct ro sp_ G F fz (ab_Ev ro ab_codes (d + 1)) 120 [(0, (-2147483648), 2147483647), (0, 1, 1), (0, 60, 60)] (some (0, 0, 1)) 1 10010000001060 := by
  refine ck_hand (d := d + 0) (by decide) (fun as w hw hf has => ?_)
  match as, has with
  | [v0, v1, v2], ⟨h0, h1, h2, _⟩ =>
    obtain ⟨p, rfl, hl0, hh0⟩ := ty_int h0 rfl
    replace hl0 : ((-2147483648) : Int) ≤ p.toInt := hl0
    replace hh0 : p.toInt ≤ 2147483647 := hh0
    obtain ⟨a, rfl, hl1, hh1⟩ := ty_int h1 rfl
    replace hl1 : (1 : Int) ≤ a.toInt := hl1
    replace hh1 : a.toInt ≤ 1 := hh1
    obtain ⟨b, rfl, hl2, hh2⟩ := ty_int h2 rfl
    replace hl2 : (60 : Int) ≤ b.toInt := hl2
    replace hh2 : b.toInt ≤ 60 := hh2
    refine ⟨rfl, ?_⟩
    change ab_wp ro (ab_Ev ro ab_codes d) 9 false (some .boolean) ab_k_X9_lies (fun o_1 => ∃ v w1, o_1 = (v, w1, 0, 0) ∧ ty_w sp_ G w1 ∧ F w1 ∧ ty_same G fz w w1 ∧ ck_res G (some (0, 0, 1)) v ∧ ck_wit 1 10010000001060 [.int p, .int a, .int b] v) (0, [some (.int p), some (.int a), some (.int b)], [], w, 0, 0)
    refine ax_go 2 (y := (2, [some (.int p), some (.int a), some (.int b)], [.int a, .int p], w, 0, 0)) rfl trivial ?_
    refine hx_ic_lt (l := 5) rfl rfl (fun h1 => ?_) (fun h1 => ?_)
    · -- 14
      refine hx_k (l := 15) (m := 0) rfl rfl (by decide) (fun z2 h3 => ?_)
      exact ax_ret rfl rfl ⟨hx_01 (by omega) (by omega), trivial⟩ ⟨some (.int z2), _, rfl, hw, hf, (ty_same_rf w), (hx_ti (G := G) (lo := 0) (hi := 1) (by omega) (by omega)), (hx_mkw (a := 0) (lo := 1) (hi := 60) rfl rfl (fun hz => ⟨by omega, by omega⟩))⟩
    · -- 5
      refine ax_go 2 (y := (7, [some (.int p), some (.int a), some (.int b)], [.int b, .int p], w, 0, 0)) rfl trivial ?_
      refine hx_ic_gt (l := 10) rfl rfl (fun h4 => ?_) (fun h4 => ?_)
      · -- 14
        refine hx_k (l := 15) (m := 0) rfl rfl (by decide) (fun z5 h6 => ?_)
        exact ax_ret rfl rfl ⟨hx_01 (by omega) (by omega), trivial⟩ ⟨some (.int z5), _, rfl, hw, hf, (ty_same_rf w), (hx_ti (G := G) (lo := 0) (hi := 1) (by omega) (by omega)), (hx_mkw (a := 0) (lo := 1) (hi := 60) rfl rfl (fun hz => ⟨by omega, by omega⟩))⟩
      · -- 10
        refine hx_k (l := 11) (m := 1) rfl rfl (by decide) (fun z7 h8 => ?_)
        refine ax_go 1 (y := (15, [some (.int p), some (.int a), some (.int b)], [.int z7], w, 0, 0)) rfl trivial ?_
        exact ax_ret rfl rfl ⟨hx_01 (by omega) (by omega), trivial⟩ ⟨some (.int z7), _, rfl, hw, hf, (ty_same_rf w), (hx_ti (G := G) (lo := 0) (hi := 1) (by omega) (by omega)), (hx_mkw (a := 0) (lo := 1) (hi := 60) rfl rfl (fun hz => ⟨by omega, by omega⟩))⟩
def fb_X9_lies8 : List (Nat × Nat) := [(8, 3), (8, 5), (19, 999), (32, 999), (33, 999), (34, 999), (35, 999), (44, 999), (45, 999), (1, 0), (18, 999), (2, 11), (2, 14), (1, 15), (54, 11), (4, 2), (7, 9), (30, 13), (30, 34), (30, 2), (30, 22), (30, 23), (30, 24), (30, 25), (46, 999), (47, 999), (30, 35), (30, 36), (7, 0), (24, 999), (37, 999), (30, 4), (30, 5), (30, 6), (30, 8), (30, 9), (30, 10), (30, 11), (30, 14), (30, 15), (30, 16), (30, 17), (30, 18), (30, 19), (30, 20), (30, 21), (39, 999), (40, 999), (41, 999), (30, 30), (30, 42), (30, 43), (30, 44), (1, 1), (1, 3), (1, 10), (1, 13), (8, 0), (30, 49), (2, 15), (8, 1)]
set_option maxHeartbeats 8000000 in
theorem h_X9_lies8 {ro : ab_R} {G : Nat → Nat} {fz : List (Nat × Nat)} {F : ab_W → Prop} (hF : ∀ w w', ty_same G pr_ w w' → F w → F w') (hfz : ∀ q ∈ fz, q ∈ fb_X9_lies8) (d : Nat) : ck_ct ro sp_ G F fz (ab_Ev ro ab_codes (d + 1)) 120 [(0, (-2147483648), 2147483647), (0, 0, 0), (0, (-1), 9)] (some (0, 0, 1)) 1 10000000001009 := by
  refine ck_hand (d := d + 0) (by decide) (fun as w hw hf has => ?_)
  match as, has with
  | [v0, v1, v2], ⟨h0, h1, h2, _⟩ =>
    obtain ⟨p, rfl, hl0, hh0⟩ := ty_int h0 rfl
    replace hl0 : ((-2147483648) : Int) ≤ p.toInt := hl0
    replace hh0 : p.toInt ≤ 2147483647 := hh0
    obtain ⟨a, rfl, hl1, hh1⟩ := ty_int h1 rfl
    replace hl1 : (0 : Int) ≤ a.toInt := hl1
    replace hh1 : a.toInt ≤ 0 := hh1
    obtain ⟨b, rfl, hl2, hh2⟩ := ty_int h2 rfl
    replace hl2 : ((-1) : Int) ≤ b.toInt := hl2
    replace hh2 : b.toInt ≤ 9 := hh2
    refine ⟨rfl, ?_⟩
    change ab_wp ro (ab_Ev ro ab_codes d) 9 false (some .boolean) ab_k_X9_lies (fun o_1 => ∃ v w1, o_1 = (v, w1, 0, 0) ∧ ty_w sp_ G w1 ∧ F w1 ∧ ty_same G fz w w1 ∧ ck_res G (some (0, 0, 1)) v ∧ ck_wit 1 10000000001009 [.int p, .int a, .int b] v) (0, [some (.int p), some (.int a), some (.int b)], [], w, 0, 0)
    refine ax_go 2 (y := (2, [some (.int p), some (.int a), some (.int b)], [.int a, .int p], w, 0, 0)) rfl trivial ?_
    refine hx_ic_lt (l := 5) rfl rfl (fun h1 => ?_) (fun h1 => ?_)
    · -- 14
      refine hx_k (l := 15) (m := 0) rfl rfl (by decide) (fun z2 h3 => ?_)
      exact ax_ret rfl rfl ⟨hx_01 (by omega) (by omega), trivial⟩ ⟨some (.int z2), _, rfl, hw, hf, (ty_same_rf w), (hx_ti (G := G) (lo := 0) (hi := 1) (by omega) (by omega)), (hx_mkw (a := 0) (lo := 0) (hi := 9) rfl rfl (fun hz => ⟨by omega, by omega⟩))⟩
    · -- 5
      refine ax_go 2 (y := (7, [some (.int p), some (.int a), some (.int b)], [.int b, .int p], w, 0, 0)) rfl trivial ?_
      refine hx_ic_gt (l := 10) rfl rfl (fun h4 => ?_) (fun h4 => ?_)
      · -- 14
        refine hx_k (l := 15) (m := 0) rfl rfl (by decide) (fun z5 h6 => ?_)
        exact ax_ret rfl rfl ⟨hx_01 (by omega) (by omega), trivial⟩ ⟨some (.int z5), _, rfl, hw, hf, (ty_same_rf w), (hx_ti (G := G) (lo := 0) (hi := 1) (by omega) (by omega)), (hx_mkw (a := 0) (lo := 0) (hi := 9) rfl rfl (fun hz => ⟨by omega, by omega⟩))⟩
      · -- 10
        refine hx_k (l := 11) (m := 1) rfl rfl (by decide) (fun z7 h8 => ?_)
        refine ax_go 1 (y := (15, [some (.int p), some (.int a), some (.int b)], [.int z7], w, 0, 0)) rfl trivial ?_
        exact ax_ret rfl rfl ⟨hx_01 (by omega) (by omega), trivial⟩ ⟨some (.int z7), _, rfl, hw, hf, (ty_same_rf w), (hx_ti (G := G) (lo := 0) (hi := 1) (by omega) (by omega)), (hx_mkw (a := 0) (lo := 0) (hi := 9) rfl rfl (fun hz => ⟨by omega, by omega⟩))⟩
