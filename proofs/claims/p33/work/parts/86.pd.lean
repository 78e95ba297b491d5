/-! walks by program: texts are split, clauses read -/
def fb_hp_X9_isSmall : List (Nat × Nat) := [(8, 3), (8, 5), (19, 999), (32, 999), (33, 999), (34, 999), (35, 999), (44, 999), (45, 999), (1, 0), (18, 999), (2, 11), (2, 14), (1, 15), (54, 11), (4, 2), (7, 9), (30, 13), (30, 34), (30, 2), (30, 22), (30, 23), (30, 24), (30, 25), (46, 999), (47, 999), (30, 35), (30, 36), (7, 0), (24, 999), (37, 999), (30, 4), (30, 5), (30, 6), (30, 8), (30, 9), (30, 10), (30, 11), (30, 14), (30, 15), (30, 16), (30, 17), (30, 18), (30, 19), (30, 20), (30, 21), (39, 999), (40, 999), (41, 999), (30, 30), (30, 42), (30, 43), (30, 44), (1, 1), (1, 3), (1, 10), (1, 13), (8, 0), (30, 49), (2, 15), (8, 1)]
set_option maxHeartbeats 8000000 in
theorem hp_X9_isSmall {ro : ab_R} {G : Nat → Nat} {fz : List (Nat × Nat)} {F : ab_W → Prop} (hF : ∀ w w', smt G w w' → F w → F w') (hfz : ∀ q ∈ fz, q ∈ fb_hp_X9_isSmall) (d : Nat) : hx_ct ro sp_ G (F9 G F) fz (ab_Ev ro ab_codes (d + 1)) 146 [(0, (-2147483648), 2147483647)] (some (0, 0, 1)) (fun _ _ => True) (fun as w v w1 => w1 = w ∧ True) := by
  have hFF := F9_same hF
  refine hx_hand (d := d + 0) (by decide) (fun as w hw hf has hP => ?_)
  match as, has with
  | [v0], ⟨h0, _⟩ =>
    obtain ⟨b, rfl, hl0, hh0⟩ := ty_int h0 rfl
    replace hl0 : ((-2147483648) : Int) ≤ b.toInt := hl0
    replace hh0 : b.toInt ≤ 2147483647 := hh0
    refine ⟨rfl, ?_⟩
    change ab_wp ro (ab_Ev ro ab_codes d) 9 false (some .boolean) ab_k_X9_isSmall (fun o_1 => ∃ v w1, o_1 = (v, w1, 0, 0) ∧ ty_w sp_ G w1 ∧ (F9 G F) w1 ∧ ty_same G fz w w1 ∧ ck_res G (some (0, 0, 1)) v ∧ (fun as w v w1 => w1 = w ∧ True) ([.int b] : List Value) w v w1) (0, [some (.int b)], [], w, 0, 0)
    refine ax_go 1 (y := (1, [some (.int b)], [.int b], w, 0, 0)) rfl trivial ?_
    refine hx_k (l := 3) (m := 97) rfl rfl (by decide) (fun z1 h2 => ?_)
    refine hx_ic_lt (l := 6) rfl rfl (fun h3 => ?_) (fun h3 => ?_)
    · -- 16
      refine hx_k (l := 17) (m := 0) rfl rfl (by decide) (fun z4 h5 => ?_)
      exact ax_ret rfl rfl ⟨hx_01 (by omega) (by omega), trivial⟩ ⟨some (.int z4), _, rfl, hw, hf, (ty_same_rf w), (hx_ti (G := G) (lo := 0) (hi := 1) (by omega) (by omega)), ⟨rfl, trivial⟩⟩
    · -- 6
      refine ax_go 1 (y := (7, [some (.int b)], [.int b], w, 0, 0)) rfl trivial ?_
      refine hx_k (l := 9) (m := 122) rfl rfl (by decide) (fun z6 h7 => ?_)
      refine hx_ic_gt (l := 12) rfl rfl (fun h8 => ?_) (fun h8 => ?_)
      · -- 16
        refine hx_k (l := 17) (m := 0) rfl rfl (by decide) (fun z9 h10 => ?_)
        exact ax_ret rfl rfl ⟨hx_01 (by omega) (by omega), trivial⟩ ⟨some (.int z9), _, rfl, hw, hf, (ty_same_rf w), (hx_ti (G := G) (lo := 0) (hi := 1) (by omega) (by omega)), ⟨rfl, trivial⟩⟩
      · -- 12
        refine hx_k (l := 13) (m := 1) rfl rfl (by decide) (fun z11 h12 => ?_)
        refine ax_go 1 (y := (17, [some (.int b)], [.int z11], w, 0, 0)) rfl trivial ?_
        exact ax_ret rfl rfl ⟨hx_01 (by omega) (by omega), trivial⟩ ⟨some (.int z11), _, rfl, hw, hf, (ty_same_rf w), (hx_ti (G := G) (lo := 0) (hi := 1) (by omega) (by omega)), ⟨rfl, trivial⟩⟩
def fb_hp_X9_isDigit : List (Nat × Nat) := [(8, 3), (8, 5), (19, 999), (32, 999), (33, 999), (34, 999), (35, 999), (44, 999), (45, 999), (1, 0), (18, 999), (2, 11), (2, 14), (1, 15), (54, 11), (4, 2), (7, 9), (30, 13), (30, 34), (30, 2), (30, 22), (30, 23), (30, 24), (30, 25), (46, 999), (47, 999), (30, 35), (30, 36), (7, 0), (24, 999), (37, 999), (30, 4), (30, 5), (30, 6), (30, 8), (30, 9), (30, 10), (30, 11), (30, 14), (30, 15), (30, 16), (30, 17), (30, 18), (30, 19), (30, 20), (30, 21), (39, 999), (40, 999), (41, 999), (30, 30), (30, 42), (30, 43), (30, 44), (1, 1), (1, 3), (1, 10), (1, 13), (8, 0), (30, 49), (2, 15), (8, 1)]
set_option maxHeartbeats 8000000 in
theorem hp_X9_isDigit {ro : ab_R} {G : Nat → Nat} {fz : List (Nat × Nat)} {F : ab_W → Prop} (hF : ∀ w w', smt G w w' → F w → F w') (hfz : ∀ q ∈ fz, q ∈ fb_hp_X9_isDigit) (d : Nat) : hx_ct ro sp_ G (F9 G F) fz (ab_Ev ro ab_codes (d + 1)) 147 [(0, (-2147483648), 2147483647)] (some (0, 0, 1)) (fun _ _ => True) (fun as w v w1 => w1 = w ∧ True) := by
  have hFF := F9_same hF
  refine hx_hand (d := d + 0) (by decide) (fun as w hw hf has hP => ?_)
  match as, has with
  | [v0], ⟨h0, _⟩ =>
    obtain ⟨b, rfl, hl0, hh0⟩ := ty_int h0 rfl
    replace hl0 : ((-2147483648) : Int) ≤ b.toInt := hl0
    replace hh0 : b.toInt ≤ 2147483647 := hh0
    refine ⟨rfl, ?_⟩
    change ab_wp ro (ab_Ev ro ab_codes d) 9 false (some .boolean) ab_k_X9_isDigit (fun o_1 => ∃ v w1, o_1 = (v, w1, 0, 0) ∧ ty_w sp_ G w1 ∧ (F9 G F) w1 ∧ ty_same G fz w w1 ∧ ck_res G (some (0, 0, 1)) v ∧ (fun as w v w1 => w1 = w ∧ True) ([.int b] : List Value) w v w1) (0, [some (.int b)], [], w, 0, 0)
    refine ax_go 1 (y := (1, [some (.int b)], [.int b], w, 0, 0)) rfl trivial ?_
    refine hx_k (l := 3) (m := 48) rfl rfl (by decide) (fun z1 h2 => ?_)
    refine hx_ic_lt (l := 6) rfl rfl (fun h3 => ?_) (fun h3 => ?_)
    · -- 16
      refine hx_k (l := 17) (m := 0) rfl rfl (by decide) (fun z4 h5 => ?_)
      exact ax_ret rfl rfl ⟨hx_01 (by omega) (by omega), trivial⟩ ⟨some (.int z4), _, rfl, hw, hf, (ty_same_rf w), (hx_ti (G := G) (lo := 0) (hi := 1) (by omega) (by omega)), ⟨rfl, trivial⟩⟩
    · -- 6
      refine ax_go 1 (y := (7, [some (.int b)], [.int b], w, 0, 0)) rfl trivial ?_
      refine hx_k (l := 9) (m := 57) rfl rfl (by decide) (fun z6 h7 => ?_)
      refine hx_ic_gt (l := 12) rfl rfl (fun h8 => ?_) (fun h8 => ?_)
      · -- 16
        refine hx_k (l := 17) (m := 0) rfl rfl (by decide) (fun z9 h10 => ?_)
        exact ax_ret rfl rfl ⟨hx_01 (by omega) (by omega), trivial⟩ ⟨some (.int z9), _, rfl, hw, hf, (ty_same_rf w), (hx_ti (G := G) (lo := 0) (hi := 1) (by omega) (by omega)), ⟨rfl, trivial⟩⟩
      · -- 12
        refine hx_k (l := 13) (m := 1) rfl rfl (by decide) (fun z11 h12 => ?_)
        refine ax_go 1 (y := (17, [some (.int b)], [.int z11], w, 0, 0)) rfl trivial ?_
        exact ax_ret rfl rfl ⟨hx_01 (by omega) (by omega), trivial⟩ ⟨some (.int z11), _, rfl, hw, hf, (ty_same_rf w), (hx_ti (G := G) (lo := 0) (hi := 1) (by omega) (by omega)), ⟨rfl, trivial⟩⟩
def fb_X9_wordOf : List (Nat × Nat) := [(8, 3), (8, 5), (19, 999), (32, 999), (33, 999), (34, 999), (35, 999), (44, 999), (45, 999), (1, 0), (18, 999), (2, 11), (2, 14), (1, 15), (54, 11), (4, 2), (7, 9), (30, 13), (30, 34), (30, 2), (30, 22), (30, 23), (30, 24), (30, 25), (46, 999), (47, 999), (30, 35), (30, 36), (7, 0), (24, 999), (37, 999), (30, 4), (30, 5), (30, 6), (30, 8), (30, 9), (30, 10), (30, 11), (30, 14), (30, 15), (30, 16), (30, 17), (30, 18), (30, 19), (30, 20), (30, 21), (39, 999), (40, 999), (41, 999), (30, 30), (30, 42), (30, 43), (30, 44), (1, 1), (1, 3), (1, 10), (1, 13), (8, 0), (30, 49), (2, 15), (8, 1)]
set_option maxHeartbeats 8000000 in
theorem h_X9_wordOf {ro : ab_R} {G : Nat → Nat} {fz : List (Nat × Nat)} {F : ab_W → Prop} (hF : ∀ w w', smt G w w' → F w → F w') (hfz : ∀ q ∈ fz, q ∈ fb_X9_wordOf) (d : Nat) : ck_ct ro sp_ G (F9 G F) fz (ab_Ev ro ab_codes (d + 1)) 148 [(2, 30, 0), (0, 0, 400), (0, 0, 400)] (some (0, (-2147483648), 2147483647)) 0 0 := by
  have hFF := F9_same hF
  refine ck_hand (d := d + 0) (by decide) (fun as w hw hf has => ?_)
  match as, has with
  | [v0, v1, v2], ⟨h0, h1, h2, _⟩ =>
    obtain ⟨o, rfl, _, hG0⟩ := ty_refn h0 rfl rfl
    replace hG0 : G o = 30 := hG0
    obtain ⟨fr, rfl, hl1, hh1⟩ := ty_int h1 rfl
    replace hl1 : (0 : Int) ≤ fr.toInt := hl1
    replace hh1 : fr.toInt ≤ 400 := hh1
    obtain ⟨to, rfl, hl2, hh2⟩ := ty_int h2 rfl
    replace hl2 : (0 : Int) ≤ to.toInt := hl2
    replace hh2 : to.toInt ≤ 400 := hh2
    refine ⟨rfl, ?_⟩
    have ct5 : ∀ (nq : Nat) (w1 : ab_W) (wn : Int32) (k : Int32) (u5 : Option Int32) (u6 : Option Int32) (u7 : Option Int32), ty_w sp_ G w1 → (F9 G F) w1 → ty_same G fz w w1 → (0 ≤ k.toInt) → (k.toInt ≤ 140) → (141 - k.toInt).toNat < nq → ab_wp ro (ab_Ev ro ab_codes d) 9 false (some .int) ab_k_X9_wordOf (fun o_1 => ∃ v w1, o_1 = (v, w1, 0, 0) ∧ ty_w sp_ G w1 ∧ (F9 G F) w1 ∧ ty_same G fz w w1 ∧ ck_res G (some (0, (-2147483648), 2147483647)) v ∧ ck_wit 0 0 [.ref o, .int fr, .int to] v) (5, [some (.ref o), some (.int fr), some (.int to), some (.int wn), some (.int k), (u5.map Value.int), (u6.map Value.int), (u7.map Value.int)], [], w1, 0, 0) := by
      intro nq
      induction nq with
      | zero => intro w1 wn k u5 u6 u7 hw4 hf5 hs6 i2 i3 hm; exact absurd hm (Nat.not_lt_zero _)
      | succ nq ih5 =>
        intro w1 wn k u5 u6 u7 hw4 hf5 hs6 i2 i3 hm5
        have ct57 : ∀ (nq : Nat) (w7 : ab_W) (wn3 : Int32) (k3 : Int32) (n3 : Int32) (sm3 : Int32) (i3 : Int32), ty_w sp_ G w7 → (F9 G F) w7 → ty_same G fz w w7 → (k3.toInt = k.toInt) → (0 ≤ n3.toInt) → (k.toInt + n3.toInt ≤ 139) → (0 ≤ sm3.toInt) → (sm3.toInt ≤ 1) → (sm3.toInt ≠ 0 → n3.toInt = to.toInt - fr.toInt) → (0 ≤ i3.toInt) → (i3.toInt ≤ n3.toInt) → (141 - i3.toInt).toNat < nq → ab_wp ro (ab_Ev ro ab_codes d) 9 false (some .int) ab_k_X9_wordOf (fun o_1 => ∃ v w1, o_1 = (v, w1, 0, 0) ∧ ty_w sp_ G w1 ∧ (F9 G F) w1 ∧ ty_same G fz w w1 ∧ ck_res G (some (0, (-2147483648), 2147483647)) v ∧ ck_wit 0 0 [.ref o, .int fr, .int to] v) (57, [some (.ref o), some (.int fr), some (.int to), some (.int wn3), some (.int k3), some (.int n3), some (.int sm3), some (.int i3)], [], w7, 0, 0) := by
          intro nq
          induction nq with
          | zero => intro w7 wn3 k3 n3 sm3 i3 hw16 hf17 hs18 i8 i9 i10 i11 i12 i13 i14 i15 hm; exact absurd hm (Nat.not_lt_zero _)
          | succ nq ih57 =>
            intro w7 wn3 k3 n3 sm3 i3 hw16 hf17 hs18 i8 i9 i10 i11 i12 i13 i14 i15 hm57
            refine ax_go 2 (y := (61, [some (.ref o), some (.int fr), some (.int to), some (.int wn3), some (.int k3), some (.int n3), some (.int sm3), some (.int i3)], [.int n3, .int i3], w7, 0, 0)) rfl trivial ?_
            refine hx_ic_ge (l := 64) rfl rfl (fun h19 => ?_) (fun h19 => ?_)
            · -- 104
              refine ax_go 1 (y := (106, [some (.ref o), some (.int fr), some (.int to), some (.int wn3), some (.int k3), some (.int n3), some (.int sm3), some (.int i3)], [.int sm3], w7, 0, 0)) rfl trivial ?_
              refine hx_if_eq (l := 109) rfl rfl (fun h20 => ?_) (fun h20 => ?_)
              · -- 111
                refine ax_go 2 (y := (115, [some (.ref o), some (.int fr), some (.int to), some (.int wn3), some (.int k3), some (.int n3), some (.int sm3), some (.int i3)], [.int n3, .int k3], w7, 0, 0)) rfl trivial ?_
                refine hx_k (l := 116) (m := 1) rfl rfl (by decide) (fun z21 h22 => ?_)
                refine hx_add (l := 117) rfl rfl (fun z23 h24 => ?_)
                replace h24 := h24 (by omega) (by omega)
                refine hx_add (l := 118) rfl rfl (fun z25 h26 => ?_)
                replace h26 := h26 (by omega) (by omega)
                refine ax_go 1 (y := (120, [some (.ref o), some (.int fr), some (.int to), some (.int wn3), some (.int z25), some (.int n3), some (.int sm3), some (.int i3)], [], w7, 0, 0)) rfl trivial ?_
                refine hx_iincT (x := wn3) (l := 123) rfl rfl rfl (Nat.le_of_ble_eq_true rfl) (fun z27 => ?_)
                change ab_wp ro (ab_Ev ro ab_codes d) 9 false (some .int) ab_k_X9_wordOf (fun o_1 => ∃ v w1, o_1 = (v, w1, 0, 0) ∧ ty_w sp_ G w1 ∧ (F9 G F) w1 ∧ ty_same G fz w w1 ∧ ck_res G (some (0, (-2147483648), 2147483647)) v ∧ ck_wit 0 0 [.ref o, .int fr, .int to] v) (123, [some (.ref o), some (.int fr), some (.int to), some (.int z27), some (.int z25), some (.int n3), some (.int sm3), some (.int i3)], [], w7, 0, 0)
                refine ax_go 1 (y := (5, [some (.ref o), some (.int fr), some (.int to), some (.int z27), some (.int z25), some (.int n3), some (.int sm3), some (.int i3)], [], w7, 0, 0)) rfl trivial ?_
                exact ih5 w7 z27 z25 (some n3) (some sm3) (some i3) hw16 hf17 hs18 (by omega) (by omega) (by omega)
              · -- 109
                refine ax_go 1 (y := (110, [some (.ref o), some (.int fr), some (.int to), some (.int wn3), some (.int k3), some (.int n3), some (.int sm3), some (.int i3)], [.int wn3], w7, 0, 0)) rfl trivial ?_
                exact ax_ret rfl rfl trivial ⟨some (.int wn3), _, rfl, hw16, hf17, hs18, (ck_top_ok (G := G) wn3), trivial⟩
            · -- 64
              refine ax_go 1 (y := (66, [some (.ref o), some (.int fr), some (.int to), some (.int wn3), some (.int k3), some (.int n3), some (.int sm3), some (.int i3)], [.int sm3], w7, 0, 0)) rfl trivial ?_
              refine hx_if_eq (l := 69) rfl rfl (fun h29 => ?_) (fun h29 => ?_)
              · -- 104
                refine ax_go 1 (y := (106, [some (.ref o), some (.int fr), some (.int to), some (.int wn3), some (.int k3), some (.int n3), some (.int sm3), some (.int i3)], [.int sm3], w7, 0, 0)) rfl trivial ?_
                refine hx_if_eq (l := 109) rfl rfl (fun h30 => ?_) (fun h30 => ?_)
                · -- 111
                  refine ax_go 2 (y := (115, [some (.ref o), some (.int fr), some (.int to), some (.int wn3), some (.int k3), some (.int n3), some (.int sm3), some (.int i3)], [.int n3, .int k3], w7, 0, 0)) rfl trivial ?_
                  refine hx_k (l := 116) (m := 1) rfl rfl (by decide) (fun z31 h32 => ?_)
                  refine hx_add (l := 117) rfl rfl (fun z33 h34 => ?_)
                  replace h34 := h34 (by omega) (by omega)
                  refine hx_add (l := 118) rfl rfl (fun z35 h36 => ?_)
                  replace h36 := h36 (by omega) (by omega)
                  refine ax_go 1 (y := (120, [some (.ref o), some (.int fr), some (.int to), some (.int wn3), some (.int z35), some (.int n3), some (.int sm3), some (.int i3)], [], w7, 0, 0)) rfl trivial ?_
                  refine hx_iincT (x := wn3) (l := 123) rfl rfl rfl (Nat.le_of_ble_eq_true rfl) (fun z37 => ?_)
                  change ab_wp ro (ab_Ev ro ab_codes d) 9 false (some .int) ab_k_X9_wordOf (fun o_1 => ∃ v w1, o_1 = (v, w1, 0, 0) ∧ ty_w sp_ G w1 ∧ (F9 G F) w1 ∧ ty_same G fz w w1 ∧ ck_res G (some (0, (-2147483648), 2147483647)) v ∧ ck_wit 0 0 [.ref o, .int fr, .int to] v) (123, [some (.ref o), some (.int fr), some (.int to), some (.int z37), some (.int z35), some (.int n3), some (.int sm3), some (.int i3)], [], w7, 0, 0)
                  refine ax_go 1 (y := (5, [some (.ref o), some (.int fr), some (.int to), some (.int z37), some (.int z35), some (.int n3), some (.int sm3), some (.int i3)], [], w7, 0, 0)) rfl trivial ?_
                  exact ih5 w7 z37 z35 (some n3) (some sm3) (some i3) hw16 hf17 hs18 (by omega) (by omega) (by omega)
                · -- 109
                  refine ax_go 1 (y := (110, [some (.ref o), some (.int fr), some (.int to), some (.int wn3), some (.int k3), some (.int n3), some (.int sm3), some (.int i3)], [.int wn3], w7, 0, 0)) rfl trivial ?_
                  exact ax_ret rfl rfl trivial ⟨some (.int wn3), _, rfl, hw16, hf17, hs18, (ck_top_ok (G := G) wn3), trivial⟩
              · -- 69
                refine ax_go 1 (y := (70, [some (.ref o), some (.int fr), some (.int to), some (.int wn3), some (.int k3), some (.int n3), some (.int sm3), some (.int i3)], [.ref o], w7, 0, 0)) rfl trivial ?_
                obtain ⟨fs39, g40, -, q41⟩ := hx_obj hw16 hG0 (s := 30) rfl (by decide)
                obtain ⟨p42, e43, hG44⟩ := hx_fr (k := 7) (s := 36) q41 rfl
                refine hx_gf (l := 73) rfl rfl rfl g40 e43 ?_
                refine ax_go 2 (y := (77, [some (.ref o), some (.int fr), some (.int to), some (.int wn3), some (.int k3), some (.int n3), some (.int sm3), some (.int i3)], [.int i3, .int k3, .ref p42], w7, 0, 0)) rfl trivial ?_
                refine hx_add (l := 78) rfl rfl (fun z45 h46 => ?_)
                replace h46 := h46 (by omega) (by omega)
                obtain ⟨f47, g48, r49⟩ := hx_row hw16 hG44 (s := 36) (kd := 1) (n := 140) rfl (by decide)
                refine hx_bl (l := 79) rfl rfl g48 (by decide) (by omega) (by omega) (fun z50 h51 => ?_)
                refine ax_go 1 (y := (80, [some (.ref o), some (.int fr), some (.int to), some (.int wn3), some (.int k3), some (.int n3), some (.int sm3), some (.int i3)], [.ref o, .int z50], w7, 0, 0)) rfl trivial ?_
                obtain ⟨p52, e53, hG54⟩ := hx_fr (k := 11) (s := 37) q41 rfl
                refine hx_gf (l := 83) rfl rfl rfl g40 e53 ?_
                refine ax_go 2 (y := (86, [some (.ref o), some (.int fr), some (.int to), some (.int wn3), some (.int k3), some (.int n3), some (.int sm3), some (.int i3)], [.int i3, .int fr, .ref p52, .int z50], w7, 0, 0)) rfl trivial ?_
                refine hx_add (l := 87) rfl rfl (fun z55 h56 => ?_)
                replace h56 := h56 (by omega) (by omega)
                obtain ⟨f57, g58, r59⟩ := hx_row hw16 hG54 (s := 37) (kd := 1) (n := 400) rfl (by decide)
                refine hx_bl (l := 88) rfl rfl g58 (by decide) (by omega) (by omega) (fun z60 h61 => ?_)
                refine hx_ic_ne (l := 91) rfl rfl (fun h62 => ?_) (fun h62 => ?_)
                · -- 95
                  refine hx_k (l := 96) (m := 0) rfl rfl (by decide) (fun z63 h64 => ?_)
                  refine ax_go 1 (y := (98, [some (.ref o), some (.int fr), some (.int to), some (.int wn3), some (.int k3), some (.int n3), some (.int z63), some (.int i3)], [], w7, 0, 0)) rfl trivial ?_
                  refine hx_iinc (x := i3) (n := 1) (l := 101) rfl rfl rfl (Nat.le_of_ble_eq_true rfl) (by omega) (by omega) (by decide) (fun z65 h66 => ?_)
                  change ab_wp ro (ab_Ev ro ab_codes d) 9 false (some .int) ab_k_X9_wordOf (fun o_1 => ∃ v w1, o_1 = (v, w1, 0, 0) ∧ ty_w sp_ G w1 ∧ (F9 G F) w1 ∧ ty_same G fz w w1 ∧ ck_res G (some (0, (-2147483648), 2147483647)) v ∧ ck_wit 0 0 [.ref o, .int fr, .int to] v) (101, [some (.ref o), some (.int fr), some (.int to), some (.int wn3), some (.int k3), some (.int n3), some (.int z63), some (.int z65)], [], w7, 0, 0)
                  refine ax_go 1 (y := (57, [some (.ref o), some (.int fr), some (.int to), some (.int wn3), some (.int k3), some (.int n3), some (.int z63), some (.int z65)], [], w7, 0, 0)) rfl trivial ?_
                  exact ih57 w7 wn3 k3 n3 z63 z65 hw16 hf17 hs18 (by omega) (by omega) (by omega) (by omega) (by omega) (by omega) (by omega) (by omega) (by omega)
                · -- 91
                  refine hx_k (l := 92) (m := 1) rfl rfl (by decide) (fun z67 h68 => ?_)
                  refine ax_go 2 (y := (98, [some (.ref o), some (.int fr), some (.int to), some (.int wn3), some (.int k3), some (.int n3), some (.int z67), some (.int i3)], [], w7, 0, 0)) rfl trivial ?_
                  refine hx_iinc (x := i3) (n := 1) (l := 101) rfl rfl rfl (Nat.le_of_ble_eq_true rfl) (by omega) (by omega) (by decide) (fun z69 h70 => ?_)
                  change ab_wp ro (ab_Ev ro ab_codes d) 9 false (some .int) ab_k_X9_wordOf (fun o_1 => ∃ v w1, o_1 = (v, w1, 0, 0) ∧ ty_w sp_ G w1 ∧ (F9 G F) w1 ∧ ty_same G fz w w1 ∧ ck_res G (some (0, (-2147483648), 2147483647)) v ∧ ck_wit 0 0 [.ref o, .int fr, .int to] v) (101, [some (.ref o), some (.int fr), some (.int to), some (.int wn3), some (.int k3), some (.int n3), some (.int z67), some (.int z69)], [], w7, 0, 0)
                  refine ax_go 1 (y := (57, [some (.ref o), some (.int fr), some (.int to), some (.int wn3), some (.int k3), some (.int n3), some (.int z67), some (.int z69)], [], w7, 0, 0)) rfl trivial ?_
                  exact ih57 w7 wn3 k3 n3 z67 z69 hw16 hf17 hs18 (by omega) (by omega) (by omega) (by omega) (by omega) (by omega) (by omega) (by omega) (by omega)
        have ct18 : ∀ (nq : Nat) (w71 : ab_W) (wn2 : Int32) (k2 : Int32) (n2 : Int32) (v6 : Option Int32) (v7 : Option Int32), ty_w sp_ G w71 → (F9 G F) w71 → ty_same G fz w w71 → (k2.toInt = k.toInt) → (0 ≤ n2.toInt) → (k.toInt + n2.toInt ≤ 139) → (141 - n2.toInt).toNat < nq → ab_wp ro (ab_Ev ro ab_codes d) 9 false (some .int) ab_k_X9_wordOf (fun o_1 => ∃ v w1, o_1 = (v, w1, 0, 0) ∧ ty_w sp_ G w1 ∧ (F9 G F) w1 ∧ ty_same G fz w w1 ∧ ck_res G (some (0, (-2147483648), 2147483647)) v ∧ ck_wit 0 0 [.ref o, .int fr, .int to] v) (18, [some (.ref o), some (.int fr), some (.int to), some (.int wn2), some (.int k2), some (.int n2), (v6.map Value.int), (v7.map Value.int)], [], w71, 0, 0) := by
          intro nq
          induction nq with
          | zero => intro w71 wn2 k2 n2 v6 v7 hw75 hf76 hs77 i72 i73 i74 hm; exact absurd hm (Nat.not_lt_zero _)
          | succ nq ih18 =>
            intro w71 wn2 k2 n2 v6 v7 hw75 hf76 hs77 i72 i73 i74 hm18
            refine ax_go 1 (y := (19, [some (.ref o), some (.int fr), some (.int to), some (.int wn2), some (.int k2), some (.int n2), (v6.map Value.int), (v7.map Value.int)], [.ref o], w71, 0, 0)) rfl trivial ?_
            obtain ⟨fs78, g79, -, q80⟩ := hx_obj hw75 hG0 (s := 30) rfl (by decide)
            obtain ⟨p81, e82, hG83⟩ := hx_fr (k := 7) (s := 36) q80 rfl
            refine hx_gf (l := 22) rfl rfl rfl g79 e82 ?_
            refine ax_go 2 (y := (26, [some (.ref o), some (.int fr), some (.int to), some (.int wn2), some (.int k2), some (.int n2), (v6.map Value.int), (v7.map Value.int)], [.int n2, .int k2, .ref p81], w71, 0, 0)) rfl trivial ?_
            refine hx_add (l := 27) rfl rfl (fun z84 h85 => ?_)
            replace h85 := h85 (by omega) (by omega)
            obtain ⟨f86, g87, r88⟩ := hx_row hw75 hG83 (s := 36) (kd := 1) (n := 140) rfl (by decide)
            refine hx_bl (l := 28) rfl rfl g87 (by decide) (by omega) (by omega) (fun z89 h90 => ?_)
            have b91 : z84.toInt = 139 → z89.toInt = 32 := fun hh => by have y := r88 (139, 140, 1, 0, 32, 32) (by decide) z84.toInt.toNat (show (139 : Nat) ≤ _ by omega) (show _ < (140 : Nat) by omega) (show _ % (1 : Nat) = 0 by omega); rw [← h90] at y; have y2 : (32 : Int) ≤ z89.toInt ∧ z89.toInt ≤ 32 := y; omega
            refine hx_k (l := 30) (m := 32) rfl rfl (by decide) (fun z92 h93 => ?_)
            refine hx_ic_eq (l := 33) rfl rfl (fun h94 => ?_) (fun h94 => ?_)
            · -- 39
              refine ax_go 3 (y := (43, [some (.ref o), some (.int fr), some (.int to), some (.int wn2), some (.int k2), some (.int n2), (v6.map Value.int), (v7.map Value.int)], [.int fr, .int to, .int n2], w71, 0, 0)) rfl trivial ?_
              refine hx_sub (l := 44) rfl rfl (fun z95 h96 => ?_)
              replace h96 := h96 (by omega) (by omega)
              refine hx_ic_ne (l := 47) rfl rfl (fun h97 => ?_) (fun h97 => ?_)
              · -- 51
                refine hx_k (l := 52) (m := 0) rfl rfl (by decide) (fun z98 h99 => ?_)
                refine ax_go 1 (y := (54, [some (.ref o), some (.int fr), some (.int to), some (.int wn2), some (.int k2), some (.int n2), some (.int z98), (v7.map Value.int)], [], w71, 0, 0)) rfl trivial ?_
                refine hx_k (l := 55) (m := 0) rfl rfl (by decide) (fun z100 h101 => ?_)
                refine ax_go 1 (y := (57, [some (.ref o), some (.int fr), some (.int to), some (.int wn2), some (.int k2), some (.int n2), some (.int z98), some (.int z100)], [], w71, 0, 0)) rfl trivial ?_
                exact ct57 _ w71 wn2 k2 n2 z98 z100 hw75 hf76 hs77 (by omega) (by omega) (by omega) (by omega) (by omega) (by omega) (by omega) (by omega) (Nat.lt_succ_self _)
              · -- 47
                refine hx_k (l := 48) (m := 1) rfl rfl (by decide) (fun z102 h103 => ?_)
                refine ax_go 2 (y := (54, [some (.ref o), some (.int fr), some (.int to), some (.int wn2), some (.int k2), some (.int n2), some (.int z102), (v7.map Value.int)], [], w71, 0, 0)) rfl trivial ?_
                refine hx_k (l := 55) (m := 0) rfl rfl (by decide) (fun z104 h105 => ?_)
                refine ax_go 1 (y := (57, [some (.ref o), some (.int fr), some (.int to), some (.int wn2), some (.int k2), some (.int n2), some (.int z102), some (.int z104)], [], w71, 0, 0)) rfl trivial ?_
                exact ct57 _ w71 wn2 k2 n2 z102 z104 hw75 hf76 hs77 (by omega) (by omega) (by omega) (by omega) (by omega) (by omega) (by omega) (by omega) (Nat.lt_succ_self _)
            · -- 33
              refine hx_iinc (x := n2) (n := 1) (l := 36) rfl rfl rfl (Nat.le_of_ble_eq_true rfl) (by omega) (by omega) (by decide) (fun z106 h107 => ?_)
              change ab_wp ro (ab_Ev ro ab_codes d) 9 false (some .int) ab_k_X9_wordOf (fun o_1 => ∃ v w1, o_1 = (v, w1, 0, 0) ∧ ty_w sp_ G w1 ∧ (F9 G F) w1 ∧ ty_same G fz w w1 ∧ ck_res G (some (0, (-2147483648), 2147483647)) v ∧ ck_wit 0 0 [.ref o, .int fr, .int to] v) (36, [some (.ref o), some (.int fr), some (.int to), some (.int wn2), some (.int k2), some (.int z106), (v6.map Value.int), (v7.map Value.int)], [], w71, 0, 0)
              refine ax_go 1 (y := (18, [some (.ref o), some (.int fr), some (.int to), some (.int wn2), some (.int k2), some (.int z106), (v6.map Value.int), (v7.map Value.int)], [], w71, 0, 0)) rfl trivial ?_
              exact ih18 w71 wn2 k2 z106 v6 v7 hw75 hf76 hs77 (by omega) (by omega) (by omega) (by omega)
        refine ax_go 2 (y := (8, [some (.ref o), some (.int fr), some (.int to), some (.int wn), some (.int k), (u5.map Value.int), (u6.map Value.int), (u7.map Value.int)], [.ref o, .int k], w1, 0, 0)) rfl trivial ?_
        obtain ⟨fs108, g109, -, q110⟩ := hx_obj hw4 hG0 (s := 30) rfl (by decide)
        obtain ⟨p111, e112, hG113⟩ := hx_fr (k := 7) (s := 36) q110 rfl
        refine hx_gf (l := 11) rfl rfl rfl g109 e112 ?_
        obtain ⟨f114, g115, r116⟩ := hx_row hw4 hG113 (s := 36) (kd := 1) (n := 140) rfl (by decide)
        refine hx_len (l := 12) rfl rfl g115 rfl (by omega) (fun z117 h118 => ?_)
        refine hx_ic_ge (l := 15) rfl rfl (fun h119 => ?_) (fun h119 => ?_)
        · -- 126
          refine hx_k (l := 127) (m := 0) rfl rfl (by decide) (fun z120 h121 => ?_)
          exact ax_ret rfl rfl trivial ⟨some (.int z120), _, rfl, hw4, hf5, hs6, (ck_top_ok (G := G) z120), trivial⟩
        · -- 15
          refine hx_k (l := 16) (m := 0) rfl rfl (by decide) (fun z122 h123 => ?_)
          refine ax_go 1 (y := (18, [some (.ref o), some (.int fr), some (.int to), some (.int wn), some (.int k), some (.int z122), (u6.map Value.int), (u7.map Value.int)], [], w1, 0, 0)) rfl trivial ?_
          exact ct18 _ w1 wn k z122 u6 u7 hw4 hf5 hs6 (by omega) (by omega) (by omega) (Nat.lt_succ_self _)
    change ab_wp ro (ab_Ev ro ab_codes d) 9 false (some .int) ab_k_X9_wordOf (fun o_1 => ∃ v w1, o_1 = (v, w1, 0, 0) ∧ ty_w sp_ G w1 ∧ (F9 G F) w1 ∧ ty_same G fz w w1 ∧ ck_res G (some (0, (-2147483648), 2147483647)) v ∧ ck_wit 0 0 [.ref o, .int fr, .int to] v) (0, [some (.ref o), some (.int fr), some (.int to), none, none, none, none, none], [], w, 0, 0)
    refine hx_k (l := 1) (m := 1) rfl rfl (by decide) (fun z124 h125 => ?_)
    refine ax_go 1 (y := (2, [some (.ref o), some (.int fr), some (.int to), some (.int z124), none, none, none, none], [], w, 0, 0)) rfl trivial ?_
    refine hx_k (l := 3) (m := 0) rfl rfl (by decide) (fun z126 h127 => ?_)
    refine ax_go 1 (y := (5, [some (.ref o), some (.int fr), some (.int to), some (.int z124), some (.int z126), none, none, none], [], w, 0, 0)) rfl trivial ?_
    exact ct5 _ w z124 z126 none none none hw hf (ty_same_rf w) (by omega) (by omega) (Nat.lt_succ_self _)
def fb_hp_X9_splits : List (Nat × Nat) := [(8, 3), (8, 5), (19, 999), (32, 999), (33, 999), (34, 999), (35, 999), (44, 999), (45, 999), (1, 0), (18, 999), (2, 11), (2, 14), (1, 15), (54, 11), (4, 2), (7, 9), (30, 13), (30, 34), (30, 2), (30, 22), (30, 23), (30, 24), (30, 25), (46, 999), (47, 999), (30, 35), (30, 36), (7, 0), (24, 999), (37, 999), (30, 4), (30, 5), (30, 6), (30, 8), (30, 9), (30, 10), (30, 11), (30, 14), (30, 15), (30, 16), (30, 17), (30, 19), (30, 20), (30, 21), (30, 30), (30, 42), (30, 43), (30, 44), (1, 1), (1, 3), (1, 10), (1, 13), (8, 0), (30, 49), (2, 15), (8, 1)]
set_option maxHeartbeats 8000000 in
theorem hp_X9_splits {ro : ab_R} {G : Nat → Nat} {fz : List (Nat × Nat)} {F : ab_W → Prop} (hF : ∀ w w', smt G w w' → F w → F w') (hfz : ∀ q ∈ fz, q ∈ fb_hp_X9_splits) (d : Nat) : hx_ct ro sp_ G (F9 G F) fz (ab_Ev ro ab_codes (d + 2)) 149 [(2, 30, 0), (0, 0, 400)] none (fun _ _ => True) (fun as _ _ w1 => ∀ o : Nat, as[0]? = some (.ref o) → ∃ (pc pp : Nat) (fc fp : Nat → Int32) (e : Int32), hx_has w1 o 9 15 (.ref pc) ∧ hx_has w1 o 9 17 (.ref pp) ∧ hx_has w1 o 9 18 (.int e) ∧ w1[pc]? = some (.inl (0, 401, .inl fc)) ∧ w1[pp]? = some (.inl (0, 401, .inl fp)) ∧ (0 ≤ e.toInt ∧ e.toInt ≤ 400) ∧ (fc e.toInt.toNat).toInt = 0 ∧ ∀ j : Nat, (j : Int) ≤ e.toInt → 0 ≤ (fp j).toInt) := by
  have hFF := F9_same hF
  refine hx_hand (d := d + 1) (by decide) (fun as w hw hf has hP => ?_)
  match as, has with
  | [v0, v1], ⟨h0, h1, _⟩ =>
    obtain ⟨o, rfl, _, hG0⟩ := ty_refn h0 rfl rfl
    replace hG0 : G o = 30 := hG0
    obtain ⟨sz, rfl, hl1, hh1⟩ := ty_int h1 rfl
    replace hl1 : (0 : Int) ≤ sz.toInt := hl1
    replace hh1 : sz.toInt ≤ 400 := hh1
    refine ⟨rfl, ?_⟩
    obtain ⟨fs1, g2, -, q3⟩ := hx_obj hw hG0 (s := 30) rfl (by decide)
    obtain ⟨pc, e_pc, hG_pc⟩ := hx_fr (k := 15) (s := 39) q3 rfl
    obtain ⟨pv, e_pv, hG_pv⟩ := hx_fr (k := 16) (s := 40) q3 rfl
    obtain ⟨pp, e_pp, hG_pp⟩ := hx_fr (k := 17) (s := 41) q3 rfl
    obtain ⟨pt, e_pt, hG_pt⟩ := hx_fr (k := 11) (s := 37) q3 rfl
    have ct7 : ∀ (nq : Nat) (w4 : ab_W) (k : Int32) (u3 : Option Int32) (u4 : Option Int32) (u5 : Option Int32) (tn : Int32) (fq : Nat → Int32), ty_w sp_ G w4 → (F9 G F) w4 → ty_same G fz w w4 → (hx_has w4 o 9 18 (.int tn)) → (hx_has w4 o 9 15 (.ref pc)) → (hx_has w4 o 9 16 (.ref pv)) → (hx_has w4 o 9 17 (.ref pp)) → (hx_has w4 o 9 11 (.ref pt)) → (w4[pp]? = some (.inl (0, 401, .inl fq))) → (0 ≤ k.toInt) → (k.toInt ≤ sz.toInt) → (0 ≤ tn.toInt) → (tn.toInt ≤ k.toInt) → (∀ j : Nat, (j : Int) < tn.toInt → 0 ≤ (fq j).toInt) → (401 - k.toInt).toNat < nq → ab_wp ro (ab_Ev ro ab_codes (d + 1)) 9 false none ab_k_X9_splits (fun o_1 => ∃ v w1, o_1 = (v, w1, 0, 0) ∧ ty_w sp_ G w1 ∧ (F9 G F) w1 ∧ ty_same G fz w w1 ∧ ck_res G none v ∧ (fun as _ _ w1 => ∀ o : Nat, as[0]? = some (.ref o) → ∃ (pc pp : Nat) (fc fp : Nat → Int32) (e : Int32), hx_has w1 o 9 15 (.ref pc) ∧ hx_has w1 o 9 17 (.ref pp) ∧ hx_has w1 o 9 18 (.int e) ∧ w1[pc]? = some (.inl (0, 401, .inl fc)) ∧ w1[pp]? = some (.inl (0, 401, .inl fp)) ∧ (0 ≤ e.toInt ∧ e.toInt ≤ 400) ∧ (fc e.toInt.toNat).toInt = 0 ∧ ∀ j : Nat, (j : Int) ≤ e.toInt → 0 ≤ (fp j).toInt) ([.ref o, .int sz] : List Value) w v w1) (7, [some (.ref o), some (.int sz), some (.int k), (u3.map Value.int), (u4.map Value.int), (u5.map Value.int)], [], w4, 0, 0) := by
      intro nq
      induction nq with
      | zero => intro w4 k u3 u4 u5 tn fq hw15 hf16 hs17 hh5 hh6 hh7 hh8 hh9 g10 i11 i12 i13 i14 hpq hm; exact absurd hm (Nat.not_lt_zero _)
      | succ nq ih7 =>
        intro w4 k u3 u4 u5 tn fq hw15 hf16 hs17 hh5 hh6 hh7 hh8 hh9 g10 i11 i12 i13 i14 hpq hm7
        obtain ⟨fs18, g19, e20⟩ := hh5
        have q21 := hx_oq hw15 g19 hG0 (s := 30) rfl
        obtain ⟨x22, e23, a24, b25⟩ := hx_fi (k := 18) (lo := 0) (hi := 400) q21 rfl
        obtain rfl : tn = x22 := hx_inji e20 e23
        obtain ⟨fs26, g27, e28⟩ := hh6
        obtain rfl : fs18 = fs26 := hx_inj g19 g27
        obtain ⟨fs29, g30, e31⟩ := hh7
        obtain rfl : fs18 = fs29 := hx_inj g19 g30
        obtain ⟨fs32, g33, e34⟩ := hh8
        obtain rfl : fs18 = fs32 := hx_inj g19 g33
        obtain ⟨fs35, g36, e37⟩ := hh9
        obtain rfl : fs18 = fs35 := hx_inj g19 g36
        have ct169 : ∀ (nq : Nat) (w38 : ab_W) (k9 : Int32) (b9 : Int32) (t9 : Int32) (i9 : Int32) (tn9 : Int32) (fq9 : Nat → Int32), ty_w sp_ G w38 → (F9 G F) w38 → ty_same G fz w w38 → (hx_has w38 o 9 18 (.int tn9)) → (hx_has w38 o 9 15 (.ref pc)) → (hx_has w38 o 9 16 (.ref pv)) → (hx_has w38 o 9 17 (.ref pp)) → (hx_has w38 o 9 11 (.ref pt)) → (w38[pp]? = some (.inl (0, 401, .inl fq9))) → (k9.toInt = k.toInt) → (k.toInt < t9.toInt) → (t9.toInt ≤ sz.toInt) → (tn9.toInt = tn.toInt) → (k.toInt ≤ i9.toInt) → (i9.toInt ≤ t9.toInt) → (∀ j : Nat, (j : Int) ≤ tn.toInt → 0 ≤ (fq9 j).toInt) → (401 - i9.toInt).toNat < nq → ab_wp ro (ab_Ev ro ab_codes (d + 1)) 9 false none ab_k_X9_splits (fun o_1 => ∃ v w1, o_1 = (v, w1, 0, 0) ∧ ty_w sp_ G w1 ∧ (F9 G F) w1 ∧ ty_same G fz w w1 ∧ ck_res G none v ∧ (fun as _ _ w1 => ∀ o : Nat, as[0]? = some (.ref o) → ∃ (pc pp : Nat) (fc fp : Nat → Int32) (e : Int32), hx_has w1 o 9 15 (.ref pc) ∧ hx_has w1 o 9 17 (.ref pp) ∧ hx_has w1 o 9 18 (.int e) ∧ w1[pc]? = some (.inl (0, 401, .inl fc)) ∧ w1[pp]? = some (.inl (0, 401, .inl fp)) ∧ (0 ≤ e.toInt ∧ e.toInt ≤ 400) ∧ (fc e.toInt.toNat).toInt = 0 ∧ ∀ j : Nat, (j : Int) ≤ e.toInt → 0 ≤ (fp j).toInt) ([.ref o, .int sz] : List Value) w v w1) (169, [some (.ref o), some (.int sz), some (.int k9), some (.int b9), some (.int t9), some (.int i9)], [], w38, 0, 0) := by
          intro nq
          induction nq with
          | zero => intro w38 k9 b9 t9 i9 tn9 fq9 hw51 hf52 hs53 hh39 hh40 hh41 hh42 hh43 g44 i45 i46 i47 i48 i49 i50 hp9 hm; exact absurd hm (Nat.not_lt_zero _)
          | succ nq ih169 =>
            intro w38 k9 b9 t9 i9 tn9 fq9 hw51 hf52 hs53 hh39 hh40 hh41 hh42 hh43 g44 i45 i46 i47 i48 i49 i50 hp9 hm169
            obtain ⟨fs54, g55, e56⟩ := hh39
            have q57 := hx_oq hw51 g55 hG0 (s := 30) rfl
            obtain ⟨x58, e59, a60, b61⟩ := hx_fi (k := 18) (lo := 0) (hi := 400) q57 rfl
            obtain rfl : tn9 = x58 := hx_inji e56 e59
            obtain ⟨fs62, g63, e64⟩ := hh40
            obtain rfl : fs54 = fs62 := hx_inj g55 g63
            obtain ⟨fs65, g66, e67⟩ := hh41
            obtain rfl : fs54 = fs65 := hx_inj g55 g66
            obtain ⟨fs68, g69, e70⟩ := hh42
            obtain rfl : fs54 = fs68 := hx_inj g55 g69
            obtain ⟨fs71, g72, e73⟩ := hh43
            obtain rfl : fs54 = fs71 := hx_inj g55 g72
            refine ax_go 2 (y := (173, [some (.ref o), some (.int sz), some (.int k9), some (.int b9), some (.int t9), some (.int i9)], [.int t9, .int i9], w38, 0, 0)) rfl trivial ?_
            refine hx_ic_ge (l := 176) rfl rfl (fun h74 => ?_) (fun h74 => ?_)
            · -- 247
              refine ax_go 2 (y := (249, [some (.ref o), some (.int sz), some (.int k9), some (.int b9), some (.int t9), some (.int i9)], [.ref o, .ref o], w38, 0, 0)) rfl trivial ?_
              refine hx_gf (l := 252) rfl rfl rfl g55 e56 ?_
              refine hx_k (l := 253) (m := 1) rfl rfl (by decide) (fun z75 h76 => ?_)
              refine hx_add (l := 254) rfl rfl (fun z77 h78 => ?_)
              replace h78 := h78 (by omega) (by omega)
              refine hx_pf (q := (0, 0, 0, 0, 0, 400)) (s := 30) (l := 257) (v := .int z77) rfl rfl rfl (by decide) rfl rfl rfl hw51 hG0 g55 trivial (hx_ti (G := G) (lo := 0) (hi := 400) (by omega) (by omega)) (fun w79 fs80 g81 e82 o83 n84 hw85 n86 => ?_)
              have hs87 := ty_same_tr hs53 (n86 fz (hx_ok hfz (by decide)))
              have hf88 := hFF _ _ (n86 pr_ (by decide)) hf52
              refine ax_go 3 (y := (7, [some (.ref o), some (.int sz), some (.int t9), some (.int b9), some (.int t9), some (.int i9)], [], w79, 0, 0)) rfl trivial ?_
              exact ih7 w79 t9 (some b9) (some t9) (some i9) z77 fq9 hw85 hf88 hs87 ⟨_, g81, e82⟩ ⟨_, g81, ((o83 15 (by decide)).trans e64)⟩ ⟨_, g81, ((o83 16 (by decide)).trans e67)⟩ ⟨_, g81, ((o83 17 (by decide)).trans e70)⟩ ⟨_, g81, ((o83 11 (by decide)).trans e73)⟩ ((n84 _ (hx_ne hG_pp hG0 (by decide))).trans g44) (by omega) (by omega) (by omega) (by omega) (fun j hj => hp9 j (by omega)) (by omega)
            · -- 176
              refine ax_go 1 (y := (177, [some (.ref o), some (.int sz), some (.int k9), some (.int b9), some (.int t9), some (.int i9)], [.int b9], w38, 0, 0)) rfl trivial ?_
              refine hx_pi (l := 180) (as := [.int b9]) rfl rfl rfl (hp_X9_isDigit (fz := fz) hF (fun q hq => (by decide +kernel : ∀ q ∈ fb_hp_X9_splits, q ∈ fb_hp_X9_isDigit) q (hfz q hq)) (d + 0)) hw51 hf52 ⟨(ck_top_ok (G := G) b9), trivial⟩ trivial (fun w89 z94 hw90 hf91 m92 a95 b96 u97 => ?_)
              rw [u97.1]
              refine hx_if_eq (l := 183) rfl rfl (fun h98 => ?_) (fun h98 => ?_)
              · -- 247
                refine ax_go 2 (y := (249, [some (.ref o), some (.int sz), some (.int k9), some (.int b9), some (.int t9), some (.int i9)], [.ref o, .ref o], w38, 0, 0)) rfl trivial ?_
                refine hx_gf (l := 252) rfl rfl rfl g55 e56 ?_
                refine hx_k (l := 253) (m := 1) rfl rfl (by decide) (fun z99 h100 => ?_)
                refine hx_add (l := 254) rfl rfl (fun z101 h102 => ?_)
                replace h102 := h102 (by omega) (by omega)
                refine hx_pf (q := (0, 0, 0, 0, 0, 400)) (s := 30) (l := 257) (v := .int z101) rfl rfl rfl (by decide) rfl rfl rfl hw51 hG0 g55 trivial (hx_ti (G := G) (lo := 0) (hi := 400) (by omega) (by omega)) (fun w103 fs104 g105 e106 o107 n108 hw109 n110 => ?_)
                have hs111 := ty_same_tr hs53 (n110 fz (hx_ok hfz (by decide)))
                have hf112 := hFF _ _ (n110 pr_ (by decide)) hf52
                refine ax_go 3 (y := (7, [some (.ref o), some (.int sz), some (.int t9), some (.int b9), some (.int t9), some (.int i9)], [], w103, 0, 0)) rfl trivial ?_
                exact ih7 w103 t9 (some b9) (some t9) (some i9) z101 fq9 hw109 hf112 hs111 ⟨_, g105, e106⟩ ⟨_, g105, ((o107 15 (by decide)).trans e64)⟩ ⟨_, g105, ((o107 16 (by decide)).trans e67)⟩ ⟨_, g105, ((o107 17 (by decide)).trans e70)⟩ ⟨_, g105, ((o107 11 (by decide)).trans e73)⟩ ((n108 _ (hx_ne hG_pp hG0 (by decide))).trans g44) (by omega) (by omega) (by omega) (by omega) (fun j hj => hp9 j (by omega)) (by omega)
              · -- 183
                refine ax_go 1 (y := (184, [some (.ref o), some (.int sz), some (.int k9), some (.int b9), some (.int t9), some (.int i9)], [.ref o], w38, 0, 0)) rfl trivial ?_
                refine hx_gf (l := 187) rfl rfl rfl g55 e67 ?_
                refine ax_go 1 (y := (188, [some (.ref o), some (.int sz), some (.int k9), some (.int b9), some (.int t9), some (.int i9)], [.ref o, .ref pv], w38, 0, 0)) rfl trivial ?_
                refine hx_gf (l := 191) rfl rfl rfl g55 e56 ?_
                refine ax_go 1 (y := (192, [some (.ref o), some (.int sz), some (.int k9), some (.int b9), some (.int t9), some (.int i9)], [.ref o, .int tn9, .ref pv], w38, 0, 0)) rfl trivial ?_
                refine hx_gf (l := 195) rfl rfl rfl g55 e67 ?_
                refine ax_go 1 (y := (196, [some (.ref o), some (.int sz), some (.int k9), some (.int b9), some (.int t9), some (.int i9)], [.ref o, .ref pv, .int tn9, .ref pv], w38, 0, 0)) rfl trivial ?_
                refine hx_gf (l := 199) rfl rfl rfl g55 e56 ?_
                obtain ⟨f113, g114, r115⟩ := hx_row hw51 hG_pv (s := 40) (kd := 0) (n := 401) rfl (by decide)
                refine hx_il (l := 200) rfl rfl g114 (by omega) (by omega) (fun z116 h117 => ?_)
                refine hx_k (l := 202) (m := 1000000) rfl rfl (by decide) (fun z118 h119 => ?_)
                refine hx_ic_le (l := 205) rfl rfl (fun h120 => ?_) (fun h120 => ?_)
                · -- 217
                  refine hx_k (l := 219) (m := 10) rfl rfl (by decide) (fun z121 h122 => ?_)
                  refine ax_go 1 (y := (220, [some (.ref o), some (.int sz), some (.int k9), some (.int b9), some (.int t9), some (.int i9)], [.ref o, .int z121, .int tn9, .ref pv], w38, 0, 0)) rfl trivial ?_
                  refine hx_gf (l := 223) rfl rfl rfl g55 e67 ?_
                  refine ax_go 1 (y := (224, [some (.ref o), some (.int sz), some (.int k9), some (.int b9), some (.int t9), some (.int i9)], [.ref o, .ref pv, .int z121, .int tn9, .ref pv], w38, 0, 0)) rfl trivial ?_
                  refine hx_gf (l := 227) rfl rfl rfl g55 e56 ?_
                  refine hx_il (l := 228) rfl rfl g114 (by omega) (by omega) (fun z123 h124 => ?_)
                  refine hx_mul (l := 229) rfl rfl (fun z125 h126 => ?_)
                  rw [h122] at h126
                  refine ax_go 1 (y := (230, [some (.ref o), some (.int sz), some (.int k9), some (.int b9), some (.int t9), some (.int i9)], [.ref o, .int z125, .int tn9, .ref pv], w38, 0, 0)) rfl trivial ?_
                  refine hx_gf (l := 233) rfl rfl rfl g55 e73 ?_
                  refine ax_go 1 (y := (235, [some (.ref o), some (.int sz), some (.int k9), some (.int b9), some (.int t9), some (.int i9)], [.int i9, .ref pt, .int z125, .int tn9, .ref pv], w38, 0, 0)) rfl trivial ?_
                  obtain ⟨f127, g128, r129⟩ := hx_row hw51 hG_pt (s := 37) (kd := 1) (n := 400) rfl (by decide)
                  refine hx_bl (l := 236) rfl rfl g128 (by decide) (by omega) (by omega) (fun z130 h131 => ?_)
                  refine hx_add (l := 237) rfl rfl (fun z132 h133 => ?_)
                  refine hx_k (l := 239) (m := 48) rfl rfl (by decide) (fun z134 h135 => ?_)
                  refine hx_sub (l := 240) rfl rfl (fun z136 h137 => ?_)
                  refine hx_is (s := 40) (l := 241) rfl rfl rfl hw51 hG_pv g114 (by omega) (by omega) hx_sg0 (fun w138 f139 g140 e141 o142 n143 hw144 n145 => ?_)
                  have hs146 := ty_same_tr hs53 (n145 fz (hx_ok hfz (by decide)))
                  have hf147 := hFF _ _ (n145 pr_ (by decide)) hf52
                  refine hx_iinc (x := i9) (n := 1) (l := 244) rfl rfl rfl (Nat.le_of_ble_eq_true rfl) (by omega) (by omega) (by decide) (fun z148 h149 => ?_)
                  change ab_wp ro (ab_Ev ro ab_codes (d + 1)) 9 false none ab_k_X9_splits (fun o_1 => ∃ v w1, o_1 = (v, w1, 0, 0) ∧ ty_w sp_ G w1 ∧ (F9 G F) w1 ∧ ty_same G fz w w1 ∧ ck_res G none v ∧ (fun as _ _ w1 => ∀ o : Nat, as[0]? = some (.ref o) → ∃ (pc pp : Nat) (fc fp : Nat → Int32) (e : Int32), hx_has w1 o 9 15 (.ref pc) ∧ hx_has w1 o 9 17 (.ref pp) ∧ hx_has w1 o 9 18 (.int e) ∧ w1[pc]? = some (.inl (0, 401, .inl fc)) ∧ w1[pp]? = some (.inl (0, 401, .inl fp)) ∧ (0 ≤ e.toInt ∧ e.toInt ≤ 400) ∧ (fc e.toInt.toNat).toInt = 0 ∧ ∀ j : Nat, (j : Int) ≤ e.toInt → 0 ≤ (fp j).toInt) ([.ref o, .int sz] : List Value) w v w1) (244, [some (.ref o), some (.int sz), some (.int k9), some (.int b9), some (.int t9), some (.int z148)], [], w138, 0, 0)
                  refine ax_go 1 (y := (169, [some (.ref o), some (.int sz), some (.int k9), some (.int b9), some (.int t9), some (.int z148)], [], w138, 0, 0)) rfl trivial ?_
                  exact ih169 w138 k9 b9 t9 z148 tn9 fq9 hw144 hf147 hs146 ⟨_, ((n143 _ (hx_ne hG0 hG_pv (by decide))).trans g55), e56⟩ ⟨_, ((n143 _ (hx_ne hG0 hG_pv (by decide))).trans g55), e64⟩ ⟨_, ((n143 _ (hx_ne hG0 hG_pv (by decide))).trans g55), e67⟩ ⟨_, ((n143 _ (hx_ne hG0 hG_pv (by decide))).trans g55), e70⟩ ⟨_, ((n143 _ (hx_ne hG0 hG_pv (by decide))).trans g55), e73⟩ ((n143 _ (hx_ne hG_pp hG_pv (by decide))).trans g44) (by omega) (by omega) (by omega) (by omega) (by omega) (by omega) hp9 (by omega)
                · -- 205
                  refine ax_go 1 (y := (206, [some (.ref o), some (.int sz), some (.int k9), some (.int b9), some (.int t9), some (.int i9)], [.ref o, .int tn9, .ref pv], w38, 0, 0)) rfl trivial ?_
                  refine hx_gf (l := 209) rfl rfl rfl g55 e67 ?_
                  refine ax_go 1 (y := (210, [some (.ref o), some (.int sz), some (.int k9), some (.int b9), some (.int t9), some (.int i9)], [.ref o, .ref pv, .int tn9, .ref pv], w38, 0, 0)) rfl trivial ?_
                  refine hx_gf (l := 213) rfl rfl rfl g55 e56 ?_
                  refine hx_il (l := 214) rfl rfl g114 (by omega) (by omega) (fun z150 h151 => ?_)
                  refine ax_go 1 (y := (240, [some (.ref o), some (.int sz), some (.int k9), some (.int b9), some (.int t9), some (.int i9)], [.int z150, .int tn9, .ref pv], w38, 0, 0)) rfl trivial ?_
                  refine hx_is (s := 40) (l := 241) rfl rfl rfl hw51 hG_pv g114 (by omega) (by omega) hx_sg0 (fun w152 f153 g154 e155 o156 n157 hw158 n159 => ?_)
                  have hs160 := ty_same_tr hs53 (n159 fz (hx_ok hfz (by decide)))
                  have hf161 := hFF _ _ (n159 pr_ (by decide)) hf52
                  refine hx_iinc (x := i9) (n := 1) (l := 244) rfl rfl rfl (Nat.le_of_ble_eq_true rfl) (by omega) (by omega) (by decide) (fun z162 h163 => ?_)
                  change ab_wp ro (ab_Ev ro ab_codes (d + 1)) 9 false none ab_k_X9_splits (fun o_1 => ∃ v w1, o_1 = (v, w1, 0, 0) ∧ ty_w sp_ G w1 ∧ (F9 G F) w1 ∧ ty_same G fz w w1 ∧ ck_res G none v ∧ (fun as _ _ w1 => ∀ o : Nat, as[0]? = some (.ref o) → ∃ (pc pp : Nat) (fc fp : Nat → Int32) (e : Int32), hx_has w1 o 9 15 (.ref pc) ∧ hx_has w1 o 9 17 (.ref pp) ∧ hx_has w1 o 9 18 (.int e) ∧ w1[pc]? = some (.inl (0, 401, .inl fc)) ∧ w1[pp]? = some (.inl (0, 401, .inl fp)) ∧ (0 ≤ e.toInt ∧ e.toInt ≤ 400) ∧ (fc e.toInt.toNat).toInt = 0 ∧ ∀ j : Nat, (j : Int) ≤ e.toInt → 0 ≤ (fp j).toInt) ([.ref o, .int sz] : List Value) w v w1) (244, [some (.ref o), some (.int sz), some (.int k9), some (.int b9), some (.int t9), some (.int z162)], [], w152, 0, 0)
                  refine ax_go 1 (y := (169, [some (.ref o), some (.int sz), some (.int k9), some (.int b9), some (.int t9), some (.int z162)], [], w152, 0, 0)) rfl trivial ?_
                  exact ih169 w152 k9 b9 t9 z162 tn9 fq9 hw158 hf161 hs160 ⟨_, ((n157 _ (hx_ne hG0 hG_pv (by decide))).trans g55), e56⟩ ⟨_, ((n157 _ (hx_ne hG0 hG_pv (by decide))).trans g55), e64⟩ ⟨_, ((n157 _ (hx_ne hG0 hG_pv (by decide))).trans g55), e67⟩ ⟨_, ((n157 _ (hx_ne hG0 hG_pv (by decide))).trans g55), e70⟩ ⟨_, ((n157 _ (hx_ne hG0 hG_pv (by decide))).trans g55), e73⟩ ((n157 _ (hx_ne hG_pp hG_pv (by decide))).trans g44) (by omega) (by omega) (by omega) (by omega) (by omega) (by omega) hp9 (by omega)
        have ct100 : ∀ (w164 : ab_W) (k4 : Int32) (b4 : Int32) (t4 : Int32) (i4 : Option Int32) (tn4 : Int32) (fq4 : Nat → Int32), ty_w sp_ G w164 → (F9 G F) w164 → ty_same G fz w w164 → (hx_has w164 o 9 18 (.int tn4)) → (hx_has w164 o 9 15 (.ref pc)) → (hx_has w164 o 9 16 (.ref pv)) → (hx_has w164 o 9 17 (.ref pp)) → (hx_has w164 o 9 11 (.ref pt)) → (w164[pp]? = some (.inl (0, 401, .inl fq4))) → (k4.toInt = k.toInt) → (k.toInt < t4.toInt) → (t4.toInt ≤ sz.toInt) → (tn4.toInt = tn.toInt) → (∀ j : Nat, (j : Int) < tn.toInt → 0 ≤ (fq4 j).toInt) → ab_wp ro (ab_Ev ro ab_codes (d + 1)) 9 false none ab_k_X9_splits (fun o_1 => ∃ v w1, o_1 = (v, w1, 0, 0) ∧ ty_w sp_ G w1 ∧ (F9 G F) w1 ∧ ty_same G fz w w1 ∧ ck_res G none v ∧ (fun as _ _ w1 => ∀ o : Nat, as[0]? = some (.ref o) → ∃ (pc pp : Nat) (fc fp : Nat → Int32) (e : Int32), hx_has w1 o 9 15 (.ref pc) ∧ hx_has w1 o 9 17 (.ref pp) ∧ hx_has w1 o 9 18 (.int e) ∧ w1[pc]? = some (.inl (0, 401, .inl fc)) ∧ w1[pp]? = some (.inl (0, 401, .inl fp)) ∧ (0 ≤ e.toInt ∧ e.toInt ≤ 400) ∧ (fc e.toInt.toNat).toInt = 0 ∧ ∀ j : Nat, (j : Int) ≤ e.toInt → 0 ≤ (fp j).toInt) ([.ref o, .int sz] : List Value) w v w1) (100, [some (.ref o), some (.int sz), some (.int k4), some (.int b4), some (.int t4), (i4.map Value.int)], [], w164, 0, 0) := by
          intro w164 k4 b4 t4 i4 tn4 fq4 hw175 hf176 hs177 hh165 hh166 hh167 hh168 hh169 g170 i171 i172 i173 i174 hp4
          obtain ⟨fs178, g179, e180⟩ := hh165
          have q181 := hx_oq hw175 g179 hG0 (s := 30) rfl
          obtain ⟨x182, e183, a184, b185⟩ := hx_fi (k := 18) (lo := 0) (hi := 400) q181 rfl
          obtain rfl : tn4 = x182 := hx_inji e180 e183
          obtain ⟨fs186, g187, e188⟩ := hh166
          obtain rfl : fs178 = fs186 := hx_inj g179 g187
          obtain ⟨fs189, g190, e191⟩ := hh167
          obtain rfl : fs178 = fs189 := hx_inj g179 g190
          obtain ⟨fs192, g193, e194⟩ := hh168
          obtain rfl : fs178 = fs192 := hx_inj g179 g193
          obtain ⟨fs195, g196, e197⟩ := hh169
          obtain rfl : fs178 = fs195 := hx_inj g179 g196
          refine ax_go 1 (y := (101, [some (.ref o), some (.int sz), some (.int k4), some (.int b4), some (.int t4), (i4.map Value.int)], [.ref o], w164, 0, 0)) rfl trivial ?_
          refine hx_gf (l := 104) rfl rfl rfl g179 e194 ?_
          refine ax_go 1 (y := (105, [some (.ref o), some (.int sz), some (.int k4), some (.int b4), some (.int t4), (i4.map Value.int)], [.ref o, .ref pp], w164, 0, 0)) rfl trivial ?_
          refine hx_gf (l := 108) rfl rfl rfl g179 e180 ?_
          refine ax_go 1 (y := (109, [some (.ref o), some (.int sz), some (.int k4), some (.int b4), some (.int t4), (i4.map Value.int)], [.int k4, .int tn4, .ref pp], w164, 0, 0)) rfl trivial ?_
          refine hx_is (s := 41) (l := 110) rfl rfl rfl hw175 hG_pp g170 (by omega) (by omega) hx_sg0 (fun w198 f199 g200 e201 o202 n203 hw204 n205 => ?_)
          have hs206 := ty_same_tr hs177 (n205 fz (hx_ok hfz (by decide)))
          have hf207 := hFF _ _ (n205 pr_ (by decide)) hf176
          refine ax_go 1 (y := (111, [some (.ref o), some (.int sz), some (.int k4), some (.int b4), some (.int t4), (i4.map Value.int)], [.ref o], w198, 0, 0)) rfl trivial ?_
          refine hx_gf (l := 114) rfl rfl rfl ((n203 _ (hx_ne hG0 hG_pp (by decide))).trans g179) e191 ?_
          refine ax_go 1 (y := (115, [some (.ref o), some (.int sz), some (.int k4), some (.int b4), some (.int t4), (i4.map Value.int)], [.ref o, .ref pv], w198, 0, 0)) rfl trivial ?_
          refine hx_gf (l := 118) rfl rfl rfl ((n203 _ (hx_ne hG0 hG_pp (by decide))).trans g179) e180 ?_
          refine hx_k (l := 119) (m := 0) rfl rfl (by decide) (fun z208 h209 => ?_)
          obtain ⟨f210, g211, r212⟩ := hx_row hw204 hG_pv (s := 40) (kd := 0) (n := 401) rfl (by decide)
          refine hx_is (s := 40) (l := 120) rfl rfl rfl hw204 hG_pv g211 (by omega) (by omega) hx_sg0 (fun w213 f214 g215 e216 o217 n218 hw219 n220 => ?_)
          have hs221 := ty_same_tr hs206 (n220 fz (hx_ok hfz (by decide)))
          have hf222 := hFF _ _ (n220 pr_ (by decide)) hf207
          refine ax_go 1 (y := (121, [some (.ref o), some (.int sz), some (.int k4), some (.int b4), some (.int t4), (i4.map Value.int)], [.ref o], w213, 0, 0)) rfl trivial ?_
          refine hx_gf (l := 124) rfl rfl rfl ((n218 _ (hx_ne hG0 hG_pv (by decide))).trans ((n203 _ (hx_ne hG0 hG_pp (by decide))).trans g179)) e188 ?_
          refine ax_go 1 (y := (125, [some (.ref o), some (.int sz), some (.int k4), some (.int b4), some (.int t4), (i4.map Value.int)], [.ref o, .ref pc], w213, 0, 0)) rfl trivial ?_
          refine hx_gf (l := 128) rfl rfl rfl ((n218 _ (hx_ne hG0 hG_pv (by decide))).trans ((n203 _ (hx_ne hG0 hG_pp (by decide))).trans g179)) e180 ?_
          refine ax_go 1 (y := (129, [some (.ref o), some (.int sz), some (.int k4), some (.int b4), some (.int t4), (i4.map Value.int)], [.int b4, .int tn4, .ref pc], w213, 0, 0)) rfl trivial ?_
          refine hx_pi (l := 132) (as := [.int b4]) rfl rfl rfl (hp_X9_isSmall (fz := fz) hF (fun q hq => (by decide +kernel : ∀ q ∈ fb_hp_X9_splits, q ∈ fb_hp_X9_isSmall) q (hfz q hq)) (d + 0)) hw219 hf222 ⟨(ck_top_ok (G := G) b4), trivial⟩ trivial (fun w223 z228 hw224 hf225 m226 a229 b230 u231 => ?_)
          rw [u231.1]
          refine hx_if_eq (l := 135) rfl rfl (fun h232 => ?_) (fun h232 => ?_)
          · -- 145
            refine ax_go 1 (y := (146, [some (.ref o), some (.int sz), some (.int k4), some (.int b4), some (.int t4), (i4.map Value.int)], [.int b4, .int tn4, .ref pc], w213, 0, 0)) rfl trivial ?_
            refine hx_pi (l := 149) (as := [.int b4]) rfl rfl rfl (hp_X9_isDigit (fz := fz) hF (fun q hq => (by decide +kernel : ∀ q ∈ fb_hp_X9_splits, q ∈ fb_hp_X9_isDigit) q (hfz q hq)) (d + 0)) hw219 hf222 ⟨(ck_top_ok (G := G) b4), trivial⟩ trivial (fun w233 z238 hw234 hf235 m236 a239 b240 u241 => ?_)
            rw [u241.1]
            refine hx_if_eq (l := 152) rfl rfl (fun h242 => ?_) (fun h242 => ?_)
            · -- 157
              refine hx_k (l := 159) (m := 100) rfl rfl (by decide) (fun z243 h244 => ?_)
              refine ax_go 1 (y := (160, [some (.ref o), some (.int sz), some (.int k4), some (.int b4), some (.int t4), (i4.map Value.int)], [.int b4, .int z243, .int tn4, .ref pc], w213, 0, 0)) rfl trivial ?_
              refine hx_k (l := 163) (m := 255) rfl rfl (by decide) (fun z245 h246 => ?_)
              refine hx_and (l := 164) (m := 255) rfl rfl (by omega) (by decide) (fun z247 h248 h249 => ?_)
              refine hx_add (l := 165) rfl rfl (fun z250 h251 => ?_)
              replace h251 := h251 (by omega) (by omega)
              obtain ⟨f252, g253, r254⟩ := hx_row hw219 hG_pc (s := 39) (kd := 0) (n := 401) rfl (by decide)
              refine hx_is (s := 39) (l := 166) rfl rfl rfl hw219 hG_pc g253 (by omega) (by omega) hx_sg0 (fun w255 f256 g257 e258 o259 n260 hw261 n262 => ?_)
              have hs263 := ty_same_tr hs221 (n262 fz (hx_ok hfz (by decide)))
              have hf264 := hFF _ _ (n262 pr_ (by decide)) hf222
              refine ax_go 2 (y := (169, [some (.ref o), some (.int sz), some (.int k4), some (.int b4), some (.int t4), some (.int k4)], [], w255, 0, 0)) rfl trivial ?_
              exact ct169 _ w255 k4 b4 t4 k4 tn4 f199 hw261 hf264 hs263 ⟨_, ((n260 _ (hx_ne hG0 hG_pc (by decide))).trans ((n218 _ (hx_ne hG0 hG_pv (by decide))).trans ((n203 _ (hx_ne hG0 hG_pp (by decide))).trans g179))), e180⟩ ⟨_, ((n260 _ (hx_ne hG0 hG_pc (by decide))).trans ((n218 _ (hx_ne hG0 hG_pv (by decide))).trans ((n203 _ (hx_ne hG0 hG_pp (by decide))).trans g179))), e188⟩ ⟨_, ((n260 _ (hx_ne hG0 hG_pc (by decide))).trans ((n218 _ (hx_ne hG0 hG_pv (by decide))).trans ((n203 _ (hx_ne hG0 hG_pp (by decide))).trans g179))), e191⟩ ⟨_, ((n260 _ (hx_ne hG0 hG_pc (by decide))).trans ((n218 _ (hx_ne hG0 hG_pv (by decide))).trans ((n203 _ (hx_ne hG0 hG_pp (by decide))).trans g179))), e194⟩ ⟨_, ((n260 _ (hx_ne hG0 hG_pc (by decide))).trans ((n218 _ (hx_ne hG0 hG_pv (by decide))).trans ((n203 _ (hx_ne hG0 hG_pp (by decide))).trans g179))), e197⟩ ((n260 _ (hx_ne hG_pp hG_pc (by decide))).trans ((n218 _ (hx_ne hG_pp hG_pv (by decide))).trans g200)) (by omega) (by omega) (by omega) (by omega) (by omega) (by omega) (fun j hj => by
                by_cases zz : (j : Int) = tn4.toInt
                · rw [show j = tn4.toInt.toNat by omega, e201]; omega
                · rw [o202 _ (by omega)]; exact hp4 j (by omega)) (Nat.lt_succ_self _)
            · -- 152
              refine hx_k (l := 154) (m := 50) rfl rfl (by decide) (fun z265 h266 => ?_)
              refine ax_go 1 (y := (165, [some (.ref o), some (.int sz), some (.int k4), some (.int b4), some (.int t4), (i4.map Value.int)], [.int z265, .int tn4, .ref pc], w213, 0, 0)) rfl trivial ?_
              obtain ⟨f267, g268, r269⟩ := hx_row hw219 hG_pc (s := 39) (kd := 0) (n := 401) rfl (by decide)
              refine hx_is (s := 39) (l := 166) rfl rfl rfl hw219 hG_pc g268 (by omega) (by omega) hx_sg0 (fun w270 f271 g272 e273 o274 n275 hw276 n277 => ?_)
              have hs278 := ty_same_tr hs221 (n277 fz (hx_ok hfz (by decide)))
              have hf279 := hFF _ _ (n277 pr_ (by decide)) hf222
              refine ax_go 2 (y := (169, [some (.ref o), some (.int sz), some (.int k4), some (.int b4), some (.int t4), some (.int k4)], [], w270, 0, 0)) rfl trivial ?_
              exact ct169 _ w270 k4 b4 t4 k4 tn4 f199 hw276 hf279 hs278 ⟨_, ((n275 _ (hx_ne hG0 hG_pc (by decide))).trans ((n218 _ (hx_ne hG0 hG_pv (by decide))).trans ((n203 _ (hx_ne hG0 hG_pp (by decide))).trans g179))), e180⟩ ⟨_, ((n275 _ (hx_ne hG0 hG_pc (by decide))).trans ((n218 _ (hx_ne hG0 hG_pv (by decide))).trans ((n203 _ (hx_ne hG0 hG_pp (by decide))).trans g179))), e188⟩ ⟨_, ((n275 _ (hx_ne hG0 hG_pc (by decide))).trans ((n218 _ (hx_ne hG0 hG_pv (by decide))).trans ((n203 _ (hx_ne hG0 hG_pp (by decide))).trans g179))), e191⟩ ⟨_, ((n275 _ (hx_ne hG0 hG_pc (by decide))).trans ((n218 _ (hx_ne hG0 hG_pv (by decide))).trans ((n203 _ (hx_ne hG0 hG_pp (by decide))).trans g179))), e194⟩ ⟨_, ((n275 _ (hx_ne hG0 hG_pc (by decide))).trans ((n218 _ (hx_ne hG0 hG_pv (by decide))).trans ((n203 _ (hx_ne hG0 hG_pp (by decide))).trans g179))), e197⟩ ((n275 _ (hx_ne hG_pp hG_pc (by decide))).trans ((n218 _ (hx_ne hG_pp hG_pv (by decide))).trans g200)) (by omega) (by omega) (by omega) (by omega) (by omega) (by omega) (fun j hj => by
                by_cases zz : (j : Int) = tn4.toInt
                · rw [show j = tn4.toInt.toNat by omega, e201]; omega
                · rw [o202 _ (by omega)]; exact hp4 j (by omega)) (Nat.lt_succ_self _)
          · -- 135
            refine ax_go 3 (y := (139, [some (.ref o), some (.int sz), some (.int k4), some (.int b4), some (.int t4), (i4.map Value.int)], [.int t4, .int k4, .ref o, .int tn4, .ref pc], w213, 0, 0)) rfl trivial ?_
            refine hx_ci (l := 142) (as := [.ref o, .int k4, .int t4]) rfl rfl (hx_iv (j := 148) (n := 2) (o := o) (r := [.int tn4, .ref pc]) rfl rfl ((n218 _ (hx_ne hG0 hG_pv (by decide))).trans ((n203 _ (hx_ne hG0 hG_pp (by decide))).trans g179)) rfl) (h_X9_wordOf (fz := ([(30, 15), (30, 16), (30, 17), (30, 11), (30, 18), (41, 999)] ++ fz)) hF (hx_app (by decide +kernel) (fun q hq => (by decide +kernel : ∀ q ∈ fb_hp_X9_splits, q ∈ fb_X9_wordOf) q (hfz q hq))) (d + 0)) hw219 hf222 ⟨(hx_tr (G := G) (s := 30) (b := 0) hG0 (by decide)), (hx_ti (G := G) (lo := 0) (hi := 400) (by omega) (by omega)), (hx_ti (G := G) (lo := 0) (hi := 400) (by omega) (by omega)), trivial⟩ (fun w280 z285 hw281 hf282 m283 a286 b287 u288 => ?_)
            have hs284 := ty_same_tr hs221 (hx_sapp m283)
            obtain ⟨fs289, g290, -, q291⟩ := hx_obj hw281 hG0 (s := 30) rfl (by decide)
            refine ax_go 1 (y := (165, [some (.ref o), some (.int sz), some (.int k4), some (.int b4), some (.int t4), (i4.map Value.int)], [.int z285, .int tn4, .ref pc], w280, 0, 0)) rfl trivial ?_
            obtain ⟨f292, g293, r294⟩ := hx_row hw281 hG_pc (s := 39) (kd := 0) (n := 401) rfl (by decide)
            refine hx_is (s := 39) (l := 166) rfl rfl rfl hw281 hG_pc g293 (by omega) (by omega) hx_sg0 (fun w295 f296 g297 e298 o299 n300 hw301 n302 => ?_)
            have hs303 := ty_same_tr hs284 (n302 fz (hx_ok hfz (by decide)))
            have hf304 := hFF _ _ (n302 pr_ (by decide)) hf282
            refine ax_go 2 (y := (169, [some (.ref o), some (.int sz), some (.int k4), some (.int b4), some (.int t4), some (.int k4)], [], w295, 0, 0)) rfl trivial ?_
            exact ct169 _ w295 k4 b4 t4 k4 tn4 f199 hw301 hf304 hs303 ⟨_, ((n300 _ (hx_ne hG0 hG_pc (by decide))).trans g290), ((hx_kf m283 (hx_mem hG0 (by decide)) ((n218 _ (hx_ne hG0 hG_pv (by decide))).trans ((n203 _ (hx_ne hG0 hG_pp (by decide))).trans g179)) g290).trans e180)⟩ ⟨_, ((n300 _ (hx_ne hG0 hG_pc (by decide))).trans g290), ((hx_kf m283 (hx_mem hG0 (by decide)) ((n218 _ (hx_ne hG0 hG_pv (by decide))).trans ((n203 _ (hx_ne hG0 hG_pp (by decide))).trans g179)) g290).trans e188)⟩ ⟨_, ((n300 _ (hx_ne hG0 hG_pc (by decide))).trans g290), ((hx_kf m283 (hx_mem hG0 (by decide)) ((n218 _ (hx_ne hG0 hG_pv (by decide))).trans ((n203 _ (hx_ne hG0 hG_pp (by decide))).trans g179)) g290).trans e191)⟩ ⟨_, ((n300 _ (hx_ne hG0 hG_pc (by decide))).trans g290), ((hx_kf m283 (hx_mem hG0 (by decide)) ((n218 _ (hx_ne hG0 hG_pv (by decide))).trans ((n203 _ (hx_ne hG0 hG_pp (by decide))).trans g179)) g290).trans e194)⟩ ⟨_, ((n300 _ (hx_ne hG0 hG_pc (by decide))).trans g290), ((hx_kf m283 (hx_mem hG0 (by decide)) ((n218 _ (hx_ne hG0 hG_pv (by decide))).trans ((n203 _ (hx_ne hG0 hG_pp (by decide))).trans g179)) g290).trans e197)⟩ ((n300 _ (hx_ne hG_pp hG_pc (by decide))).trans ((hx_kr m283 (hx_mem hG_pp (by decide))).trans ((n218 _ (hx_ne hG_pp hG_pv (by decide))).trans g200))) (by omega) (by omega) (by omega) (by omega) (by omega) (by omega) (fun j hj => by
              by_cases zz : (j : Int) = tn4.toInt
              · rw [show j = tn4.toInt.toNat by omega, e201]; omega
              · rw [o202 _ (by omega)]; exact hp4 j (by omega)) (Nat.lt_succ_self _)
        have ct75 : ∀ (nq : Nat) (w305 : ab_W) (k3 : Int32) (b3 : Int32) (t3 : Int32) (i3 : Option Int32) (tn3 : Int32) (fq3 : Nat → Int32), ty_w sp_ G w305 → (F9 G F) w305 → ty_same G fz w w305 → (hx_has w305 o 9 18 (.int tn3)) → (hx_has w305 o 9 15 (.ref pc)) → (hx_has w305 o 9 16 (.ref pv)) → (hx_has w305 o 9 17 (.ref pp)) → (hx_has w305 o 9 11 (.ref pt)) → (w305[pp]? = some (.inl (0, 401, .inl fq3))) → (k3.toInt = k.toInt) → (k.toInt < t3.toInt) → (t3.toInt ≤ sz.toInt) → (tn3.toInt = tn.toInt) → (∀ j : Nat, (j : Int) < tn.toInt → 0 ≤ (fq3 j).toInt) → (401 - t3.toInt).toNat < nq → ab_wp ro (ab_Ev ro ab_codes (d + 1)) 9 false none ab_k_X9_splits (fun o_1 => ∃ v w1, o_1 = (v, w1, 0, 0) ∧ ty_w sp_ G w1 ∧ (F9 G F) w1 ∧ ty_same G fz w w1 ∧ ck_res G none v ∧ (fun as _ _ w1 => ∀ o : Nat, as[0]? = some (.ref o) → ∃ (pc pp : Nat) (fc fp : Nat → Int32) (e : Int32), hx_has w1 o 9 15 (.ref pc) ∧ hx_has w1 o 9 17 (.ref pp) ∧ hx_has w1 o 9 18 (.int e) ∧ w1[pc]? = some (.inl (0, 401, .inl fc)) ∧ w1[pp]? = some (.inl (0, 401, .inl fp)) ∧ (0 ≤ e.toInt ∧ e.toInt ≤ 400) ∧ (fc e.toInt.toNat).toInt = 0 ∧ ∀ j : Nat, (j : Int) ≤ e.toInt → 0 ≤ (fp j).toInt) ([.ref o, .int sz] : List Value) w v w1) (75, [some (.ref o), some (.int sz), some (.int k3), some (.int b3), some (.int t3), (i3.map Value.int)], [], w305, 0, 0) := by
          intro nq
          induction nq with
          | zero => intro w305 k3 b3 t3 i3 tn3 fq3 hw316 hf317 hs318 hh306 hh307 hh308 hh309 hh310 g311 i312 i313 i314 i315 hp3 hm; exact absurd hm (Nat.not_lt_zero _)
          | succ nq ih75 =>
            intro w305 k3 b3 t3 i3 tn3 fq3 hw316 hf317 hs318 hh306 hh307 hh308 hh309 hh310 g311 i312 i313 i314 i315 hp3 hm75
            obtain ⟨fs319, g320, e321⟩ := hh306
            have q322 := hx_oq hw316 g320 hG0 (s := 30) rfl
            obtain ⟨x323, e324, a325, b326⟩ := hx_fi (k := 18) (lo := 0) (hi := 400) q322 rfl
            obtain rfl : tn3 = x323 := hx_inji e321 e324
            obtain ⟨fs327, g328, e329⟩ := hh307
            obtain rfl : fs319 = fs327 := hx_inj g320 g328
            obtain ⟨fs330, g331, e332⟩ := hh308
            obtain rfl : fs319 = fs330 := hx_inj g320 g331
            obtain ⟨fs333, g334, e335⟩ := hh309
            obtain rfl : fs319 = fs333 := hx_inj g320 g334
            obtain ⟨fs336, g337, e338⟩ := hh310
            obtain rfl : fs319 = fs336 := hx_inj g320 g337
            refine ax_go 2 (y := (78, [some (.ref o), some (.int sz), some (.int k3), some (.int b3), some (.int t3), (i3.map Value.int)], [.int sz, .int t3], w305, 0, 0)) rfl trivial ?_
            refine hx_ic_ge (l := 81) rfl rfl (fun h339 => ?_) (fun h339 => ?_)
            · -- 100
              exact ct100 w305 k3 b3 t3 i3 tn3 fq3 hw316 hf317 hs318 ⟨_, g320, e321⟩ ⟨_, g320, e329⟩ ⟨_, g320, e332⟩ ⟨_, g320, e335⟩ ⟨_, g320, e338⟩ g311 (by omega) (by omega) (by omega) (by omega) hp3
            · -- 81
              refine ax_go 1 (y := (82, [some (.ref o), some (.int sz), some (.int k3), some (.int b3), some (.int t3), (i3.map Value.int)], [.ref o], w305, 0, 0)) rfl trivial ?_
              refine hx_gf (l := 85) rfl rfl rfl g320 e338 ?_
              refine ax_go 1 (y := (87, [some (.ref o), some (.int sz), some (.int k3), some (.int b3), some (.int t3), (i3.map Value.int)], [.int t3, .ref pt], w305, 0, 0)) rfl trivial ?_
              obtain ⟨f340, g341, r342⟩ := hx_row hw316 hG_pt (s := 37) (kd := 1) (n := 400) rfl (by decide)
              refine hx_bl (l := 88) rfl rfl g341 (by decide) (by omega) (by omega) (fun z343 h344 => ?_)
              refine hx_pi (l := 91) (as := [.int z343]) rfl rfl rfl (hp_X9_isDigit (fz := fz) hF (fun q hq => (by decide +kernel : ∀ q ∈ fb_hp_X9_splits, q ∈ fb_hp_X9_isDigit) q (hfz q hq)) (d + 0)) hw316 hf317 ⟨(ck_top_ok (G := G) z343), trivial⟩ trivial (fun w345 z350 hw346 hf347 m348 a351 b352 u353 => ?_)
              rw [u353.1]
              refine hx_if_eq (l := 94) rfl rfl (fun h354 => ?_) (fun h354 => ?_)
              · -- 100
                exact ct100 w305 k3 b3 t3 i3 tn3 fq3 hw316 hf317 hs318 ⟨_, g320, e321⟩ ⟨_, g320, e329⟩ ⟨_, g320, e332⟩ ⟨_, g320, e335⟩ ⟨_, g320, e338⟩ g311 (by omega) (by omega) (by omega) (by omega) hp3
              · -- 94
                refine hx_iinc (x := t3) (n := 1) (l := 97) rfl rfl rfl (Nat.le_of_ble_eq_true rfl) (by omega) (by omega) (by decide) (fun z355 h356 => ?_)
                change ab_wp ro (ab_Ev ro ab_codes (d + 1)) 9 false none ab_k_X9_splits (fun o_1 => ∃ v w1, o_1 = (v, w1, 0, 0) ∧ ty_w sp_ G w1 ∧ (F9 G F) w1 ∧ ty_same G fz w w1 ∧ ck_res G none v ∧ (fun as _ _ w1 => ∀ o : Nat, as[0]? = some (.ref o) → ∃ (pc pp : Nat) (fc fp : Nat → Int32) (e : Int32), hx_has w1 o 9 15 (.ref pc) ∧ hx_has w1 o 9 17 (.ref pp) ∧ hx_has w1 o 9 18 (.int e) ∧ w1[pc]? = some (.inl (0, 401, .inl fc)) ∧ w1[pp]? = some (.inl (0, 401, .inl fp)) ∧ (0 ≤ e.toInt ∧ e.toInt ≤ 400) ∧ (fc e.toInt.toNat).toInt = 0 ∧ ∀ j : Nat, (j : Int) ≤ e.toInt → 0 ≤ (fp j).toInt) ([.ref o, .int sz] : List Value) w v w1) (97, [some (.ref o), some (.int sz), some (.int k3), some (.int b3), some (.int z355), (i3.map Value.int)], [], w305, 0, 0)
                refine ax_go 1 (y := (75, [some (.ref o), some (.int sz), some (.int k3), some (.int b3), some (.int z355), (i3.map Value.int)], [], w305, 0, 0)) rfl trivial ?_
                exact ih75 w305 k3 b3 z355 i3 tn3 fq3 hw316 hf317 hs318 ⟨_, g320, e321⟩ ⟨_, g320, e329⟩ ⟨_, g320, e332⟩ ⟨_, g320, e335⟩ ⟨_, g320, e338⟩ g311 (by omega) (by omega) (by omega) (by omega) hp3 (by omega)
        have ct43 : ∀ (nq : Nat) (w357 : ab_W) (k2 : Int32) (b2 : Int32) (t2 : Int32) (i2 : Option Int32) (tn2 : Int32) (fq2 : Nat → Int32), ty_w sp_ G w357 → (F9 G F) w357 → ty_same G fz w w357 → (hx_has w357 o 9 18 (.int tn2)) → (hx_has w357 o 9 15 (.ref pc)) → (hx_has w357 o 9 16 (.ref pv)) → (hx_has w357 o 9 17 (.ref pp)) → (hx_has w357 o 9 11 (.ref pt)) → (w357[pp]? = some (.inl (0, 401, .inl fq2))) → (k2.toInt = k.toInt) → (k.toInt < t2.toInt) → (t2.toInt ≤ sz.toInt) → (tn2.toInt = tn.toInt) → (∀ j : Nat, (j : Int) < tn.toInt → 0 ≤ (fq2 j).toInt) → (401 - t2.toInt).toNat < nq → ab_wp ro (ab_Ev ro ab_codes (d + 1)) 9 false none ab_k_X9_splits (fun o_1 => ∃ v w1, o_1 = (v, w1, 0, 0) ∧ ty_w sp_ G w1 ∧ (F9 G F) w1 ∧ ty_same G fz w w1 ∧ ck_res G none v ∧ (fun as _ _ w1 => ∀ o : Nat, as[0]? = some (.ref o) → ∃ (pc pp : Nat) (fc fp : Nat → Int32) (e : Int32), hx_has w1 o 9 15 (.ref pc) ∧ hx_has w1 o 9 17 (.ref pp) ∧ hx_has w1 o 9 18 (.int e) ∧ w1[pc]? = some (.inl (0, 401, .inl fc)) ∧ w1[pp]? = some (.inl (0, 401, .inl fp)) ∧ (0 ≤ e.toInt ∧ e.toInt ≤ 400) ∧ (fc e.toInt.toNat).toInt = 0 ∧ ∀ j : Nat, (j : Int) ≤ e.toInt → 0 ≤ (fp j).toInt) ([.ref o, .int sz] : List Value) w v w1) (43, [some (.ref o), some (.int sz), some (.int k2), some (.int b2), some (.int t2), (i2.map Value.int)], [], w357, 0, 0) := by
          intro nq
          induction nq with
          | zero => intro w357 k2 b2 t2 i2 tn2 fq2 hw368 hf369 hs370 hh358 hh359 hh360 hh361 hh362 g363 i364 i365 i366 i367 hp2 hm; exact absurd hm (Nat.not_lt_zero _)
          | succ nq ih43 =>
            intro w357 k2 b2 t2 i2 tn2 fq2 hw368 hf369 hs370 hh358 hh359 hh360 hh361 hh362 g363 i364 i365 i366 i367 hp2 hm43
            obtain ⟨fs371, g372, e373⟩ := hh358
            have q374 := hx_oq hw368 g372 hG0 (s := 30) rfl
            obtain ⟨x375, e376, a377, b378⟩ := hx_fi (k := 18) (lo := 0) (hi := 400) q374 rfl
            obtain rfl : tn2 = x375 := hx_inji e373 e376
            obtain ⟨fs379, g380, e381⟩ := hh359
            obtain rfl : fs371 = fs379 := hx_inj g372 g380
            obtain ⟨fs382, g383, e384⟩ := hh360
            obtain rfl : fs371 = fs382 := hx_inj g372 g383
            obtain ⟨fs385, g386, e387⟩ := hh361
            obtain rfl : fs371 = fs385 := hx_inj g372 g386
            obtain ⟨fs388, g389, e390⟩ := hh362
            obtain rfl : fs371 = fs388 := hx_inj g372 g389
            refine ax_go 2 (y := (46, [some (.ref o), some (.int sz), some (.int k2), some (.int b2), some (.int t2), (i2.map Value.int)], [.int sz, .int t2], w357, 0, 0)) rfl trivial ?_
            refine hx_ic_ge (l := 49) rfl rfl (fun h391 => ?_) (fun h391 => ?_)
            · -- 68
              refine ax_go 1 (y := (69, [some (.ref o), some (.int sz), some (.int k2), some (.int b2), some (.int t2), (i2.map Value.int)], [.int b2], w357, 0, 0)) rfl trivial ?_
              refine hx_pi (l := 72) (as := [.int b2]) rfl rfl rfl (hp_X9_isDigit (fz := fz) hF (fun q hq => (by decide +kernel : ∀ q ∈ fb_hp_X9_splits, q ∈ fb_hp_X9_isDigit) q (hfz q hq)) (d + 0)) hw368 hf369 ⟨(ck_top_ok (G := G) b2), trivial⟩ trivial (fun w392 z397 hw393 hf394 m395 a398 b399 u400 => ?_)
              rw [u400.1]
              refine hx_if_eq (l := 75) rfl rfl (fun h401 => ?_) (fun h401 => ?_)
              · -- 100
                exact ct100 w357 k2 b2 t2 i2 tn2 fq2 hw368 hf369 hs370 ⟨_, g372, e373⟩ ⟨_, g372, e381⟩ ⟨_, g372, e384⟩ ⟨_, g372, e387⟩ ⟨_, g372, e390⟩ g363 (by omega) (by omega) (by omega) (by omega) hp2
              · -- 75
                exact ct75 _ w357 k2 b2 t2 i2 tn2 fq2 hw368 hf369 hs370 ⟨_, g372, e373⟩ ⟨_, g372, e381⟩ ⟨_, g372, e384⟩ ⟨_, g372, e387⟩ ⟨_, g372, e390⟩ g363 (by omega) (by omega) (by omega) (by omega) hp2 (Nat.lt_succ_self _)
            · -- 49
              refine ax_go 1 (y := (50, [some (.ref o), some (.int sz), some (.int k2), some (.int b2), some (.int t2), (i2.map Value.int)], [.ref o], w357, 0, 0)) rfl trivial ?_
              refine hx_gf (l := 53) rfl rfl rfl g372 e390 ?_
              refine ax_go 1 (y := (55, [some (.ref o), some (.int sz), some (.int k2), some (.int b2), some (.int t2), (i2.map Value.int)], [.int t2, .ref pt], w357, 0, 0)) rfl trivial ?_
              obtain ⟨f402, g403, r404⟩ := hx_row hw368 hG_pt (s := 37) (kd := 1) (n := 400) rfl (by decide)
              refine hx_bl (l := 56) rfl rfl g403 (by decide) (by omega) (by omega) (fun z405 h406 => ?_)
              refine hx_pi (l := 59) (as := [.int z405]) rfl rfl rfl (hp_X9_isSmall (fz := fz) hF (fun q hq => (by decide +kernel : ∀ q ∈ fb_hp_X9_splits, q ∈ fb_hp_X9_isSmall) q (hfz q hq)) (d + 0)) hw368 hf369 ⟨(ck_top_ok (G := G) z405), trivial⟩ trivial (fun w407 z412 hw408 hf409 m410 a413 b414 u415 => ?_)
              rw [u415.1]
              refine hx_if_eq (l := 62) rfl rfl (fun h416 => ?_) (fun h416 => ?_)
              · -- 68
                refine ax_go 1 (y := (69, [some (.ref o), some (.int sz), some (.int k2), some (.int b2), some (.int t2), (i2.map Value.int)], [.int b2], w357, 0, 0)) rfl trivial ?_
                refine hx_pi (l := 72) (as := [.int b2]) rfl rfl rfl (hp_X9_isDigit (fz := fz) hF (fun q hq => (by decide +kernel : ∀ q ∈ fb_hp_X9_splits, q ∈ fb_hp_X9_isDigit) q (hfz q hq)) (d + 0)) hw368 hf369 ⟨(ck_top_ok (G := G) b2), trivial⟩ trivial (fun w417 z422 hw418 hf419 m420 a423 b424 u425 => ?_)
                rw [u425.1]
                refine hx_if_eq (l := 75) rfl rfl (fun h426 => ?_) (fun h426 => ?_)
                · -- 100
                  exact ct100 w357 k2 b2 t2 i2 tn2 fq2 hw368 hf369 hs370 ⟨_, g372, e373⟩ ⟨_, g372, e381⟩ ⟨_, g372, e384⟩ ⟨_, g372, e387⟩ ⟨_, g372, e390⟩ g363 (by omega) (by omega) (by omega) (by omega) hp2
                · -- 75
                  exact ct75 _ w357 k2 b2 t2 i2 tn2 fq2 hw368 hf369 hs370 ⟨_, g372, e373⟩ ⟨_, g372, e381⟩ ⟨_, g372, e384⟩ ⟨_, g372, e387⟩ ⟨_, g372, e390⟩ g363 (by omega) (by omega) (by omega) (by omega) hp2 (Nat.lt_succ_self _)
              · -- 62
                refine hx_iinc (x := t2) (n := 1) (l := 65) rfl rfl rfl (Nat.le_of_ble_eq_true rfl) (by omega) (by omega) (by decide) (fun z427 h428 => ?_)
                change ab_wp ro (ab_Ev ro ab_codes (d + 1)) 9 false none ab_k_X9_splits (fun o_1 => ∃ v w1, o_1 = (v, w1, 0, 0) ∧ ty_w sp_ G w1 ∧ (F9 G F) w1 ∧ ty_same G fz w w1 ∧ ck_res G none v ∧ (fun as _ _ w1 => ∀ o : Nat, as[0]? = some (.ref o) → ∃ (pc pp : Nat) (fc fp : Nat → Int32) (e : Int32), hx_has w1 o 9 15 (.ref pc) ∧ hx_has w1 o 9 17 (.ref pp) ∧ hx_has w1 o 9 18 (.int e) ∧ w1[pc]? = some (.inl (0, 401, .inl fc)) ∧ w1[pp]? = some (.inl (0, 401, .inl fp)) ∧ (0 ≤ e.toInt ∧ e.toInt ≤ 400) ∧ (fc e.toInt.toNat).toInt = 0 ∧ ∀ j : Nat, (j : Int) ≤ e.toInt → 0 ≤ (fp j).toInt) ([.ref o, .int sz] : List Value) w v w1) (65, [some (.ref o), some (.int sz), some (.int k2), some (.int b2), some (.int z427), (i2.map Value.int)], [], w357, 0, 0)
                refine ax_go 1 (y := (43, [some (.ref o), some (.int sz), some (.int k2), some (.int b2), some (.int z427), (i2.map Value.int)], [], w357, 0, 0)) rfl trivial ?_
                exact ih43 w357 k2 b2 z427 i2 tn2 fq2 hw368 hf369 hs370 ⟨_, g372, e373⟩ ⟨_, g372, e381⟩ ⟨_, g372, e384⟩ ⟨_, g372, e387⟩ ⟨_, g372, e390⟩ g363 (by omega) (by omega) (by omega) (by omega) hp2 (by omega)
        refine ax_go 2 (y := (9, [some (.ref o), some (.int sz), some (.int k), (u3.map Value.int), (u4.map Value.int), (u5.map Value.int)], [.int sz, .int k], w4, 0, 0)) rfl trivial ?_
        refine hx_ic_ge (l := 12) rfl rfl (fun h429 => ?_) (fun h429 => ?_)
        · -- 263
          refine ax_go 1 (y := (264, [some (.ref o), some (.int sz), some (.int k), (u3.map Value.int), (u4.map Value.int), (u5.map Value.int)], [.ref o], w4, 0, 0)) rfl trivial ?_
          refine hx_gf (l := 267) rfl rfl rfl g19 e34 ?_
          refine ax_go 1 (y := (268, [some (.ref o), some (.int sz), some (.int k), (u3.map Value.int), (u4.map Value.int), (u5.map Value.int)], [.ref o, .ref pp], w4, 0, 0)) rfl trivial ?_
          refine hx_gf (l := 271) rfl rfl rfl g19 e20 ?_
          refine ax_go 1 (y := (272, [some (.ref o), some (.int sz), some (.int k), (u3.map Value.int), (u4.map Value.int), (u5.map Value.int)], [.int sz, .int tn, .ref pp], w4, 0, 0)) rfl trivial ?_
          refine hx_is (s := 41) (l := 273) rfl rfl rfl hw15 hG_pp g10 (by omega) (by omega) hx_sg0 (fun w430 f431 g432 e433 o434 n435 hw436 n437 => ?_)
          have hs438 := ty_same_tr hs17 (n437 fz (hx_ok hfz (by decide)))
          have hf439 := hFF _ _ (n437 pr_ (by decide)) hf16
          refine ax_go 1 (y := (274, [some (.ref o), some (.int sz), some (.int k), (u3.map Value.int), (u4.map Value.int), (u5.map Value.int)], [.ref o], w430, 0, 0)) rfl trivial ?_
          refine hx_gf (l := 277) rfl rfl rfl ((n435 _ (hx_ne hG0 hG_pp (by decide))).trans g19) e28 ?_
          refine ax_go 1 (y := (278, [some (.ref o), some (.int sz), some (.int k), (u3.map Value.int), (u4.map Value.int), (u5.map Value.int)], [.ref o, .ref pc], w430, 0, 0)) rfl trivial ?_
          refine hx_gf (l := 281) rfl rfl rfl ((n435 _ (hx_ne hG0 hG_pp (by decide))).trans g19) e20 ?_
          refine hx_k (l := 282) (m := 0) rfl rfl (by decide) (fun z440 h441 => ?_)
          obtain ⟨f442, g443, r444⟩ := hx_row hw436 hG_pc (s := 39) (kd := 0) (n := 401) rfl (by decide)
          refine hx_is (s := 39) (l := 283) rfl rfl rfl hw436 hG_pc g443 (by omega) (by omega) hx_sg0 (fun w445 f446 g447 e448 o449 n450 hw451 n452 => ?_)
          have hs453 := ty_same_tr hs438 (n452 fz (hx_ok hfz (by decide)))
          have hf454 := hFF _ _ (n452 pr_ (by decide)) hf439
          refine ax_go 1 (y := (284, [some (.ref o), some (.int sz), some (.int k), (u3.map Value.int), (u4.map Value.int), (u5.map Value.int)], [.ref o], w445, 0, 0)) rfl trivial ?_
          refine hx_gf (l := 287) rfl rfl rfl ((n450 _ (hx_ne hG0 hG_pc (by decide))).trans ((n435 _ (hx_ne hG0 hG_pp (by decide))).trans g19)) e31 ?_
          refine ax_go 1 (y := (288, [some (.ref o), some (.int sz), some (.int k), (u3.map Value.int), (u4.map Value.int), (u5.map Value.int)], [.ref o, .ref pv], w445, 0, 0)) rfl trivial ?_
          refine hx_gf (l := 291) rfl rfl rfl ((n450 _ (hx_ne hG0 hG_pc (by decide))).trans ((n435 _ (hx_ne hG0 hG_pp (by decide))).trans g19)) e20 ?_
          refine hx_k (l := 292) (m := 0) rfl rfl (by decide) (fun z455 h456 => ?_)
          obtain ⟨f457, g458, r459⟩ := hx_row hw451 hG_pv (s := 40) (kd := 0) (n := 401) rfl (by decide)
          refine hx_is (s := 40) (l := 293) rfl rfl rfl hw451 hG_pv g458 (by omega) (by omega) hx_sg0 (fun w460 f461 g462 e463 o464 n465 hw466 n467 => ?_)
          have hs468 := ty_same_tr hs453 (n467 fz (hx_ok hfz (by decide)))
          have hf469 := hFF _ _ (n467 pr_ (by decide)) hf454
          exact ax_ret rfl rfl trivial ⟨none, _, rfl, hw466, hf469, hs468, trivial, (fun o1 h1 => by cases h1; exact ⟨pc, pp, f446, f431, tn, ⟨_, ((n465 _ (hx_ne hG0 hG_pv (by decide))).trans ((n450 _ (hx_ne hG0 hG_pc (by decide))).trans ((n435 _ (hx_ne hG0 hG_pp (by decide))).trans g19))), e28⟩, ⟨_, ((n465 _ (hx_ne hG0 hG_pv (by decide))).trans ((n450 _ (hx_ne hG0 hG_pc (by decide))).trans ((n435 _ (hx_ne hG0 hG_pp (by decide))).trans g19))), e34⟩, ⟨_, ((n465 _ (hx_ne hG0 hG_pv (by decide))).trans ((n450 _ (hx_ne hG0 hG_pc (by decide))).trans ((n435 _ (hx_ne hG0 hG_pp (by decide))).trans g19))), e20⟩, ((n465 _ (hx_ne hG_pc hG_pv (by decide))).trans g447), ((n465 _ (hx_ne hG_pp hG_pv (by decide))).trans ((n450 _ (hx_ne hG_pp hG_pc (by decide))).trans g432)), ⟨by omega, by omega⟩, by rw [show tn.toInt.toNat = tn.toInt.toNat by omega, e448]; omega, fun j hj => by
            by_cases zz : (j : Int) = tn.toInt
            · rw [show j = tn.toInt.toNat by omega, e433]; omega
            · rw [o434 _ (by omega)]; exact hpq j (by omega)⟩)⟩
        · -- 12
          refine ax_go 1 (y := (13, [some (.ref o), some (.int sz), some (.int k), (u3.map Value.int), (u4.map Value.int), (u5.map Value.int)], [.ref o], w4, 0, 0)) rfl trivial ?_
          refine hx_gf (l := 16) rfl rfl rfl g19 e37 ?_
          refine ax_go 1 (y := (17, [some (.ref o), some (.int sz), some (.int k), (u3.map Value.int), (u4.map Value.int), (u5.map Value.int)], [.int k, .ref pt], w4, 0, 0)) rfl trivial ?_
          obtain ⟨f470, g471, r472⟩ := hx_row hw15 hG_pt (s := 37) (kd := 1) (n := 400) rfl (by decide)
          refine hx_bl (l := 18) rfl rfl g471 (by decide) (by omega) (by omega) (fun z473 h474 => ?_)
          refine ax_go 2 (y := (20, [some (.ref o), some (.int sz), some (.int k), some (.int z473), (u4.map Value.int), (u5.map Value.int)], [.int z473], w4, 0, 0)) rfl trivial ?_
          refine hx_k (l := 22) (m := 32) rfl rfl (by decide) (fun z475 h476 => ?_)
          refine hx_ic_ne (l := 25) rfl rfl (fun h477 => ?_) (fun h477 => ?_)
          · -- 31
            refine ax_go 1 (y := (32, [some (.ref o), some (.int sz), some (.int k), some (.int z473), (u4.map Value.int), (u5.map Value.int)], [.int k], w4, 0, 0)) rfl trivial ?_
            refine hx_k (l := 33) (m := 1) rfl rfl (by decide) (fun z478 h479 => ?_)
            refine hx_add (l := 34) rfl rfl (fun z480 h481 => ?_)
            replace h481 := h481 (by omega) (by omega)
            refine ax_go 2 (y := (37, [some (.ref o), some (.int sz), some (.int k), some (.int z473), some (.int z480), (u5.map Value.int)], [.int z473], w4, 0, 0)) rfl trivial ?_
            refine hx_pi (l := 40) (as := [.int z473]) rfl rfl rfl (hp_X9_isSmall (fz := fz) hF (fun q hq => (by decide +kernel : ∀ q ∈ fb_hp_X9_splits, q ∈ fb_hp_X9_isSmall) q (hfz q hq)) (d + 0)) hw15 hf16 ⟨(ck_top_ok (G := G) z473), trivial⟩ trivial (fun w482 z487 hw483 hf484 m485 a488 b489 u490 => ?_)
            rw [u490.1]
            refine hx_if_eq (l := 43) rfl rfl (fun h491 => ?_) (fun h491 => ?_)
            · -- 68
              refine ax_go 1 (y := (69, [some (.ref o), some (.int sz), some (.int k), some (.int z473), some (.int z480), (u5.map Value.int)], [.int z473], w4, 0, 0)) rfl trivial ?_
              refine hx_pi (l := 72) (as := [.int z473]) rfl rfl rfl (hp_X9_isDigit (fz := fz) hF (fun q hq => (by decide +kernel : ∀ q ∈ fb_hp_X9_splits, q ∈ fb_hp_X9_isDigit) q (hfz q hq)) (d + 0)) hw15 hf16 ⟨(ck_top_ok (G := G) z473), trivial⟩ trivial (fun w492 z497 hw493 hf494 m495 a498 b499 u500 => ?_)
              rw [u500.1]
              refine hx_if_eq (l := 75) rfl rfl (fun h501 => ?_) (fun h501 => ?_)
              · -- 100
                exact ct100 w4 k z473 z480 u5 tn fq hw15 hf16 hs17 ⟨_, g19, e20⟩ ⟨_, g19, e28⟩ ⟨_, g19, e31⟩ ⟨_, g19, e34⟩ ⟨_, g19, e37⟩ g10 (by omega) (by omega) (by omega) (by omega) hpq
              · -- 75
                exact ct75 _ w4 k z473 z480 u5 tn fq hw15 hf16 hs17 ⟨_, g19, e20⟩ ⟨_, g19, e28⟩ ⟨_, g19, e31⟩ ⟨_, g19, e34⟩ ⟨_, g19, e37⟩ g10 (by omega) (by omega) (by omega) (by omega) hpq (Nat.lt_succ_self _)
            · -- 43
              exact ct43 _ w4 k z473 z480 u5 tn fq hw15 hf16 hs17 ⟨_, g19, e20⟩ ⟨_, g19, e28⟩ ⟨_, g19, e31⟩ ⟨_, g19, e34⟩ ⟨_, g19, e37⟩ g10 (by omega) (by omega) (by omega) (by omega) hpq (Nat.lt_succ_self _)
          · -- 25
            refine hx_iinc (x := k) (n := 1) (l := 28) rfl rfl rfl (Nat.le_of_ble_eq_true rfl) (by omega) (by omega) (by decide) (fun z502 h503 => ?_)
            change ab_wp ro (ab_Ev ro ab_codes (d + 1)) 9 false none ab_k_X9_splits (fun o_1 => ∃ v w1, o_1 = (v, w1, 0, 0) ∧ ty_w sp_ G w1 ∧ (F9 G F) w1 ∧ ty_same G fz w w1 ∧ ck_res G none v ∧ (fun as _ _ w1 => ∀ o : Nat, as[0]? = some (.ref o) → ∃ (pc pp : Nat) (fc fp : Nat → Int32) (e : Int32), hx_has w1 o 9 15 (.ref pc) ∧ hx_has w1 o 9 17 (.ref pp) ∧ hx_has w1 o 9 18 (.int e) ∧ w1[pc]? = some (.inl (0, 401, .inl fc)) ∧ w1[pp]? = some (.inl (0, 401, .inl fp)) ∧ (0 ≤ e.toInt ∧ e.toInt ≤ 400) ∧ (fc e.toInt.toNat).toInt = 0 ∧ ∀ j : Nat, (j : Int) ≤ e.toInt → 0 ≤ (fp j).toInt) ([.ref o, .int sz] : List Value) w v w1) (28, [some (.ref o), some (.int sz), some (.int z502), some (.int z473), (u4.map Value.int), (u5.map Value.int)], [], w4, 0, 0)
            refine ax_go 1 (y := (7, [some (.ref o), some (.int sz), some (.int z502), some (.int z473), (u4.map Value.int), (u5.map Value.int)], [], w4, 0, 0)) rfl trivial ?_
            exact ih7 w4 z502 (some z473) u4 u5 tn fq hw15 hf16 hs17 ⟨_, g19, e20⟩ ⟨_, g19, e28⟩ ⟨_, g19, e31⟩ ⟨_, g19, e34⟩ ⟨_, g19, e37⟩ g10 (by omega) (by omega) (by omega) (by omega) (fun j hj => hpq j (by omega)) (by omega)
    change ab_wp ro (ab_Ev ro ab_codes (d + 1)) 9 false none ab_k_X9_splits (fun o_1 => ∃ v w1, o_1 = (v, w1, 0, 0) ∧ ty_w sp_ G w1 ∧ (F9 G F) w1 ∧ ty_same G fz w w1 ∧ ck_res G none v ∧ (fun as _ _ w1 => ∀ o : Nat, as[0]? = some (.ref o) → ∃ (pc pp : Nat) (fc fp : Nat → Int32) (e : Int32), hx_has w1 o 9 15 (.ref pc) ∧ hx_has w1 o 9 17 (.ref pp) ∧ hx_has w1 o 9 18 (.int e) ∧ w1[pc]? = some (.inl (0, 401, .inl fc)) ∧ w1[pp]? = some (.inl (0, 401, .inl fp)) ∧ (0 ≤ e.toInt ∧ e.toInt ≤ 400) ∧ (fc e.toInt.toNat).toInt = 0 ∧ ∀ j : Nat, (j : Int) ≤ e.toInt → 0 ≤ (fp j).toInt) ([.ref o, .int sz] : List Value) w v w1) (0, [some (.ref o), some (.int sz), none, none, none, none], [], w, 0, 0)
    refine ax_go 1 (y := (1, [some (.ref o), some (.int sz), none, none, none, none], [.ref o], w, 0, 0)) rfl trivial ?_
    refine hx_k (l := 2) (m := 0) rfl rfl (by decide) (fun z504 h505 => ?_)
    refine hx_pf (q := (0, 0, 0, 0, 0, 400)) (s := 30) (l := 5) (v := .int z504) rfl rfl rfl (by decide) rfl rfl rfl hw hG0 g2 trivial (hx_ti (G := G) (lo := 0) (hi := 400) (by omega) (by omega)) (fun w506 fs507 g508 e509 o510 n511 hw512 n513 => ?_)
    have hs514 := ty_same_tr (ty_same_rf w) (n513 fz (hx_ok hfz (by decide)))
    have hf515 := hFF _ _ (n513 pr_ (by decide)) hf
    refine hx_k (l := 6) (m := 0) rfl rfl (by decide) (fun z516 h517 => ?_)
    refine ax_go 1 (y := (7, [some (.ref o), some (.int sz), some (.int z516), none, none, none], [], w506, 0, 0)) rfl trivial ?_
    obtain ⟨f518, g519, r520⟩ := hx_row hw512 hG_pp (s := 41) (kd := 0) (n := 401) rfl (by decide)
    exact ct7 _ w506 z516 none none none z504 f518 hw512 hf515 hs514 ⟨_, g508, e509⟩ ⟨_, g508, ((o510 15 (by decide)).trans e_pc)⟩ ⟨_, g508, ((o510 16 (by decide)).trans e_pv)⟩ ⟨_, g508, ((o510 17 (by decide)).trans e_pp)⟩ ⟨_, g508, ((o510 11 (by decide)).trans e_pt)⟩ g519 (by omega) (by omega) (by omega) (by omega) (fun j hj => absurd hj (by omega)) (Nat.lt_succ_self _)
def fb_hp_X9_readClause : List (Nat × Nat) := [(8, 3), (8, 5), (19, 999), (32, 999), (33, 999), (34, 999), (35, 999), (44, 999), (45, 999), (1, 0), (18, 999), (2, 11), (2, 14), (1, 15), (54, 11), (4, 2), (7, 9), (30, 13), (30, 34), (30, 2), (30, 22), (30, 23), (30, 24), (30, 25), (46, 999), (47, 999), (30, 35), (30, 36), (7, 0), (24, 999), (37, 999), (30, 4), (30, 5), (30, 6), (30, 8), (30, 9), (30, 10), (30, 11), (30, 14), (30, 15), (30, 16), (30, 17), (30, 18), (39, 999), (40, 999), (41, 999), (30, 30), (30, 42), (30, 43), (30, 44), (1, 1), (1, 3), (1, 10), (1, 13), (8, 0), (30, 49), (2, 15), (8, 1)]
set_option maxHeartbeats 8000000 in
theorem hp_X9_readClause {ro : ab_R} {G : Nat → Nat} {fz : List (Nat × Nat)} {F : ab_W → Prop} (hF : ∀ w w', smt G w w' → F w → F w') {pc pp : Nat} {fc fp : Nat → Int32} {tk e bd io fw lw : Int32} (hok : pa_ok fc fp e io fw lw) (htk : 0 ≤ tk.toInt ∧ tk.toInt ≤ e.toInt) (hi0 : io.toInt = 0) (hfz : ∀ q ∈ fz, q ∈ fb_hp_X9_readClause) (d : Nat) : hx_ct ro sp_ G (F9 G F) fz (ab_Ev ro ab_codes (d + 70)) 157 [(2, 30, 0)] none (paP pc pp fc fp tk e bd io fw lw) (paR pc pp fc fp tk e bd io fw lw (fun t => GK (decide (io.toInt ≠ 0)) (cd fc) e.toInt.toNat tk.toInt.toNat t.toInt.toNat)) := by
  have hFF := F9_same hF
  refine hx_hand (d := d + 69) (by decide) (fun as w hw hf has hP => ?_)
  match as, has with
  | [v0], ⟨h0, _⟩ =>
    obtain ⟨o, rfl, _, hG0⟩ := ty_refn h0 rfl rfl
    replace hG0 : G o = 30 := hG0
    refine ⟨rfl, ?_⟩
    obtain ⟨fs0, g0, i15, i17, i19, i18, i21, i10, i8, i9, gc0, gp0⟩ := hP o rfl
    obtain ⟨⟨he0, he1⟩, hz0, hpl, -, -⟩ := id hok
    have hfw := pa_fw hok
    have hG_pc := pa_r15 hw g0 hG0 i15
    have hG_pp := pa_r17 hw g0 hG0 i17
    have hio0 : decide (io.toInt ≠ 0) = false := decide_eq_false (fun y => y (by omega))
    have hio := hio0
    change ab_wp ro (ab_Ev ro ab_codes (d + 69)) 9 false none ab_k_X9_readClause (fun o_1 => ∃ v w1, o_1 = (v, w1, 0, 0) ∧ ty_w sp_ G w1 ∧ (F9 G F) w1 ∧ ty_same G fz w w1 ∧ ck_res G none v ∧ (paR pc pp fc fp tk e bd io fw lw (fun t => GK (decide (io.toInt ≠ 0)) (cd fc) e.toInt.toNat tk.toInt.toNat t.toInt.toNat)) ([.ref o] : List Value) w v w1) (0, [some (.ref o)], [], w, 0, 0)
    refine ax_go 1 (y := (1, [some (.ref o)], [.ref o], w, 0, 0)) rfl trivial ?_
    refine hx_k (l := 2) (m := 1) rfl rfl (by decide) (fun z1 h2 => ?_)
    refine hx_pi (l := 5) (as := [.ref o, .int z1]) rfl rfl (hx_iv (j := 152) (n := 1) (o := o) (r := []) rfl rfl g0 rfl) (hp_X9_takes0 (fz := fz) hF (pc := pc) (pp := pp) (fc := fc) (fp := fp) (tk := tk) (e := e) (bd := bd) (io := io) (fw := fw) (lw := lw) hok ⟨by omega, by omega⟩ (fun q hq => (by decide +kernel : ∀ q ∈ fb_hp_X9_readClause, q ∈ fb_hp_X9_takes0) q (hfz q hq)) (d + 67)) hw hf ⟨(hx_tr (G := G) (s := 30) (b := 0) hG0 (by decide)), (hx_ti (G := G) (lo := 1) (hi := 355) (by omega) (by omega)), trivial⟩ (fun o1 h1 => by cases h1; exact ⟨_, g0, i15, i17, i19, i18, i21, i10, i8, i9, gc0, gp0⟩) (fun w3 z8 hw4 hf5 m6 a9 b10 u11 => ?_)
    have hs7 := ty_same_tr (ty_same_rf w) m6
    rcases u11 _ _ _ rfl rfl with ⟨hz24, hb25, hg26, tN27, ⟨fsN12, gA13, iA14, iB15, iC16, iD17, iE18, iF19, iG20, iH21, gC22, gP23⟩, ht28, hu29⟩ | ⟨hz24, hg26, ⟨fsN12, gA13, iA14, iB15, iC16, iD17, iE18, iF19, iG20, iH21, gC22, gP23⟩⟩
    · -- taken 1
      refine hx_if_ne (l := 8) rfl rfl (fun h30 => ?_) (fun h30 => by omega)
      refine ax_go 1 (y := (25, [some (.ref o)], [.ref o], w3, 0, 0)) rfl trivial ?_
      refine hx_k (l := 26) (m := 0) rfl rfl (by decide) (fun z31 h32 => ?_)
      refine hx_p0 (l := 29) (as := [.ref o, .int z31]) rfl rfl (hx_iv (j := 163) (n := 1) (o := o) (r := []) rfl rfl gA13 rfl) ((re_all (fz := fz) hF (fun q hq => (by decide +kernel : ∀ q ∈ fb_hp_X9_readClause, q ∈ fb_re) q (hfz q hq)) 8).2.2.1 pc pp fc fp tN27 e bd io fw lw (d + 69) hok ⟨by omega, by omega⟩ (by omega)) hw4 hf5 ⟨(hx_tr (G := G) (s := 30) (b := 0) hG0 (by decide)), (hx_ti (G := G) (lo := 0) (hi := 8) (by omega) (by omega)), trivial⟩ (fun o1 l1 h1 => by cases h1; exact ⟨⟨_, gA13, iA14, iB15, iC16, iD17, iE18, iF19, iG20, iH21, gC22, gP23⟩, by omega⟩) (fun w33 hw34 hf35 m36 u41 => ?_)
      have hs37 := ty_same_tr hs7 m36
      obtain ⟨tN54, bN55, ⟨fsN42, gA43, iA44, iB45, iC46, iD47, iE48, iF49, iG50, iH51, gC52, gP53⟩, ⟨ha56, hb57⟩, hN58⟩ := u41 _ rfl
      try dsimp only at hN58
      refine ax_go 2 (y := (38, [some (.ref o)], [.ref o], w33, 0, 0)) rfl trivial ?_
      refine hx_k (l := 39) (m := 5) rfl rfl (by decide) (fun z59 h60 => ?_)
      refine hx_pi (l := 42) (as := [.ref o, .int z59]) rfl rfl (hx_iv (j := 152) (n := 1) (o := o) (r := []) rfl rfl gA43 rfl) (hp_X9_takes0 (fz := fz) hF (pc := pc) (pp := pp) (fc := fc) (fp := fp) (tk := tN54) (e := e) (bd := bN55) (io := io) (fw := fw) (lw := lw) hok ⟨by omega, by omega⟩ (fun q hq => (by decide +kernel : ∀ q ∈ fb_hp_X9_readClause, q ∈ fb_hp_X9_takes0) q (hfz q hq)) (d + 67)) hw34 hf35 ⟨(hx_tr (G := G) (s := 30) (b := 0) hG0 (by decide)), (hx_ti (G := G) (lo := 1) (hi := 355) (by omega) (by omega)), trivial⟩ (fun o1 h1 => by cases h1; exact ⟨_, gA43, iA44, iB45, iC46, iD47, iE48, iF49, iG50, iH51, gC52, gP53⟩) (fun w61 z66 hw62 hf63 m64 a67 b68 u69 => ?_)
      have hs65 := ty_same_tr hs37 m64
      rcases u69 _ _ _ rfl rfl with ⟨hz82, hb83, hg84, tN85, ⟨fsN70, gA71, iA72, iB73, iC74, iD75, iE76, iF77, iG78, iH79, gC80, gP81⟩, ht86, hu87⟩ | ⟨hz82, hg84, ⟨fsN70, gA71, iA72, iB73, iC74, iD75, iE76, iF77, iG78, iH79, gC80, gP81⟩⟩
      · -- taken 1
        refine hx_if_eq (l := 45) rfl rfl (fun h88 => by omega) (fun h88 => ?_)
        refine ax_go 1 (y := (46, [some (.ref o)], [.ref o], w61, 0, 0)) rfl trivial ?_
        refine hx_k (l := 47) (m := 0) rfl rfl (by decide) (fun z89 h90 => ?_)
        refine hx_p0 (l := 50) (as := [.ref o, .int z89]) rfl rfl (hx_iv (j := 160) (n := 1) (o := o) (r := []) rfl rfl gA71 rfl) ((re_all (fz := fz) hF (fun q hq => (by decide +kernel : ∀ q ∈ fb_hp_X9_readClause, q ∈ fb_re) q (hfz q hq)) 8).2.2.2.2.2 pc pp fc fp tN85 e bN55 io fw lw (d + 69) hok ⟨by omega, by omega⟩ (by omega)) hw62 hf63 ⟨(hx_tr (G := G) (s := 30) (b := 0) hG0 (by decide)), (hx_ti (G := G) (lo := 0) (hi := 8) (by omega) (by omega)), trivial⟩ (fun o1 l1 h1 => by cases h1; exact ⟨⟨_, gA71, iA72, iB73, iC74, iD75, iE76, iF77, iG78, iH79, gC80, gP81⟩, by omega⟩) (fun w91 hw92 hf93 m94 u99 => ?_)
        have hs95 := ty_same_tr hs65 m94
        obtain ⟨tN112, bN113, ⟨fsN100, gA101, iA102, iB103, iC104, iD105, iE106, iF107, iG108, iH109, gC110, gP111⟩, ⟨ha114, hb115⟩, hN116⟩ := u99 _ rfl
        try dsimp only at hN116
        exact ax_ret rfl rfl trivial ⟨none, _, rfl, hw92, hf93, hs95, trivial, (fun o1 h1 => by cases h1; exact ⟨tN112, bN113, ⟨_, gA101, iA102, iB103, iC104, iD105, iE106, iF107, iG108, iH109, gC110, gP111⟩, ⟨by omega, by omega⟩, by (try dsimp only); exact (fun hb => by have y0 := hN116 hb; have y1 := hN58 y0.1; exact ⟨y1.1, by rw [hio0]; exact ⟨by omega, gcl_i (y := tN54.toInt.toNat) (gc_lt (c := cd fc) (e := e.toInt.toNat) (p := tk.toInt.toNat) (by omega)) (Or.inr ⟨by omega, by rw [show tk.toInt.toNat + 1 = tN27.toInt.toNat by omega]; exact (hio ▸ y1.2)⟩) (Or.inl ⟨by omega, by rw [show tN54.toInt.toNat + 1 = tN85.toInt.toNat by omega]; exact (hio ▸ y0.2)⟩)⟩⟩)⟩)⟩
      · -- taken 0
        refine hx_if_eq (l := 45) rfl rfl (fun h117 => ?_) (fun h117 => by omega)
        exact ax_ret rfl rfl trivial ⟨none, _, rfl, hw62, hf63, hs65, trivial, (fun o1 h1 => by cases h1; exact ⟨tN54, bN55, ⟨_, gA71, iA72, iB73, iC74, iD75, iE76, iF77, iG78, iH79, gC80, gP81⟩, ⟨by omega, by omega⟩, by (try dsimp only); exact (fun hb => by have y0 := hN58 hb; exact ⟨y0.1, by rw [hio0]; exact ⟨by omega, gcl_i (y := tN54.toInt.toNat) (gc_lt (c := cd fc) (e := e.toInt.toNat) (p := tk.toInt.toNat) (by omega)) (Or.inr ⟨by omega, by rw [show tk.toInt.toNat + 1 = tN27.toInt.toNat by omega]; exact (hio ▸ y0.2)⟩) (Or.inr ⟨by omega, rfl⟩)⟩⟩)⟩)⟩
    · -- taken 0
      refine hx_if_ne (l := 8) rfl rfl (fun h118 => by omega) (fun h118 => ?_)
      refine ax_go 1 (y := (9, [some (.ref o)], [.ref o], w3, 0, 0)) rfl trivial ?_
      refine hx_k (l := 10) (m := 2) rfl rfl (by decide) (fun z119 h120 => ?_)
      refine hx_pi (l := 13) (as := [.ref o, .int z119]) rfl rfl (hx_iv (j := 152) (n := 1) (o := o) (r := []) rfl rfl gA13 rfl) (hp_X9_takes0 (fz := fz) hF (pc := pc) (pp := pp) (fc := fc) (fp := fp) (tk := tk) (e := e) (bd := bd) (io := io) (fw := fw) (lw := lw) hok ⟨by omega, by omega⟩ (fun q hq => (by decide +kernel : ∀ q ∈ fb_hp_X9_readClause, q ∈ fb_hp_X9_takes0) q (hfz q hq)) (d + 67)) hw4 hf5 ⟨(hx_tr (G := G) (s := 30) (b := 0) hG0 (by decide)), (hx_ti (G := G) (lo := 1) (hi := 355) (by omega) (by omega)), trivial⟩ (fun o1 h1 => by cases h1; exact ⟨_, gA13, iA14, iB15, iC16, iD17, iE18, iF19, iG20, iH21, gC22, gP23⟩) (fun w121 z126 hw122 hf123 m124 a127 b128 u129 => ?_)
      have hs125 := ty_same_tr hs7 m124
      rcases u129 _ _ _ rfl rfl with ⟨hz142, hb143, hg144, tN145, ⟨fsN130, gA131, iA132, iB133, iC134, iD135, iE136, iF137, iG138, iH139, gC140, gP141⟩, ht146, hu147⟩ | ⟨hz142, hg144, ⟨fsN130, gA131, iA132, iB133, iC134, iD135, iE136, iF137, iG138, iH139, gC140, gP141⟩⟩
      · -- taken 1
        refine hx_if_ne (l := 16) rfl rfl (fun h148 => ?_) (fun h148 => by omega)
        refine ax_go 1 (y := (25, [some (.ref o)], [.ref o], w121, 0, 0)) rfl trivial ?_
        refine hx_k (l := 26) (m := 0) rfl rfl (by decide) (fun z149 h150 => ?_)
        refine hx_p0 (l := 29) (as := [.ref o, .int z149]) rfl rfl (hx_iv (j := 163) (n := 1) (o := o) (r := []) rfl rfl gA131 rfl) ((re_all (fz := fz) hF (fun q hq => (by decide +kernel : ∀ q ∈ fb_hp_X9_readClause, q ∈ fb_re) q (hfz q hq)) 8).2.2.1 pc pp fc fp tN145 e bd io fw lw (d + 69) hok ⟨by omega, by omega⟩ (by omega)) hw122 hf123 ⟨(hx_tr (G := G) (s := 30) (b := 0) hG0 (by decide)), (hx_ti (G := G) (lo := 0) (hi := 8) (by omega) (by omega)), trivial⟩ (fun o1 l1 h1 => by cases h1; exact ⟨⟨_, gA131, iA132, iB133, iC134, iD135, iE136, iF137, iG138, iH139, gC140, gP141⟩, by omega⟩) (fun w151 hw152 hf153 m154 u159 => ?_)
        have hs155 := ty_same_tr hs125 m154
        obtain ⟨tN172, bN173, ⟨fsN160, gA161, iA162, iB163, iC164, iD165, iE166, iF167, iG168, iH169, gC170, gP171⟩, ⟨ha174, hb175⟩, hN176⟩ := u159 _ rfl
        try dsimp only at hN176
        refine ax_go 2 (y := (38, [some (.ref o)], [.ref o], w151, 0, 0)) rfl trivial ?_
        refine hx_k (l := 39) (m := 5) rfl rfl (by decide) (fun z177 h178 => ?_)
        refine hx_pi (l := 42) (as := [.ref o, .int z177]) rfl rfl (hx_iv (j := 152) (n := 1) (o := o) (r := []) rfl rfl gA161 rfl) (hp_X9_takes0 (fz := fz) hF (pc := pc) (pp := pp) (fc := fc) (fp := fp) (tk := tN172) (e := e) (bd := bN173) (io := io) (fw := fw) (lw := lw) hok ⟨by omega, by omega⟩ (fun q hq => (by decide +kernel : ∀ q ∈ fb_hp_X9_readClause, q ∈ fb_hp_X9_takes0) q (hfz q hq)) (d + 67)) hw152 hf153 ⟨(hx_tr (G := G) (s := 30) (b := 0) hG0 (by decide)), (hx_ti (G := G) (lo := 1) (hi := 355) (by omega) (by omega)), trivial⟩ (fun o1 h1 => by cases h1; exact ⟨_, gA161, iA162, iB163, iC164, iD165, iE166, iF167, iG168, iH169, gC170, gP171⟩) (fun w179 z184 hw180 hf181 m182 a185 b186 u187 => ?_)
        have hs183 := ty_same_tr hs155 m182
        rcases u187 _ _ _ rfl rfl with ⟨hz200, hb201, hg202, tN203, ⟨fsN188, gA189, iA190, iB191, iC192, iD193, iE194, iF195, iG196, iH197, gC198, gP199⟩, ht204, hu205⟩ | ⟨hz200, hg202, ⟨fsN188, gA189, iA190, iB191, iC192, iD193, iE194, iF195, iG196, iH197, gC198, gP199⟩⟩
        · -- taken 1
          refine hx_if_eq (l := 45) rfl rfl (fun h206 => by omega) (fun h206 => ?_)
          refine ax_go 1 (y := (46, [some (.ref o)], [.ref o], w179, 0, 0)) rfl trivial ?_
          refine hx_k (l := 47) (m := 0) rfl rfl (by decide) (fun z207 h208 => ?_)
          refine hx_p0 (l := 50) (as := [.ref o, .int z207]) rfl rfl (hx_iv (j := 160) (n := 1) (o := o) (r := []) rfl rfl gA189 rfl) ((re_all (fz := fz) hF (fun q hq => (by decide +kernel : ∀ q ∈ fb_hp_X9_readClause, q ∈ fb_re) q (hfz q hq)) 8).2.2.2.2.2 pc pp fc fp tN203 e bN173 io fw lw (d + 69) hok ⟨by omega, by omega⟩ (by omega)) hw180 hf181 ⟨(hx_tr (G := G) (s := 30) (b := 0) hG0 (by decide)), (hx_ti (G := G) (lo := 0) (hi := 8) (by omega) (by omega)), trivial⟩ (fun o1 l1 h1 => by cases h1; exact ⟨⟨_, gA189, iA190, iB191, iC192, iD193, iE194, iF195, iG196, iH197, gC198, gP199⟩, by omega⟩) (fun w209 hw210 hf211 m212 u217 => ?_)
          have hs213 := ty_same_tr hs183 m212
          obtain ⟨tN230, bN231, ⟨fsN218, gA219, iA220, iB221, iC222, iD223, iE224, iF225, iG226, iH227, gC228, gP229⟩, ⟨ha232, hb233⟩, hN234⟩ := u217 _ rfl
          try dsimp only at hN234
          exact ax_ret rfl rfl trivial ⟨none, _, rfl, hw210, hf211, hs213, trivial, (fun o1 h1 => by cases h1; exact ⟨tN230, bN231, ⟨_, gA219, iA220, iB221, iC222, iD223, iE224, iF225, iG226, iH227, gC228, gP229⟩, ⟨by omega, by omega⟩, by (try dsimp only); exact (fun hb => by have y0 := hN234 hb; have y1 := hN176 y0.1; exact ⟨y1.1, by rw [hio0]; exact ⟨by omega, gcl_i (y := tN172.toInt.toNat) (gc_lt (c := cd fc) (e := e.toInt.toNat) (p := tk.toInt.toNat) (by omega)) (Or.inr ⟨by omega, by rw [show tk.toInt.toNat + 1 = tN145.toInt.toNat by omega]; exact (hio ▸ y1.2)⟩) (Or.inl ⟨by omega, by rw [show tN172.toInt.toNat + 1 = tN203.toInt.toNat by omega]; exact (hio ▸ y0.2)⟩)⟩⟩)⟩)⟩
        · -- taken 0
          refine hx_if_eq (l := 45) rfl rfl (fun h235 => ?_) (fun h235 => by omega)
          exact ax_ret rfl rfl trivial ⟨none, _, rfl, hw180, hf181, hs183, trivial, (fun o1 h1 => by cases h1; exact ⟨tN172, bN173, ⟨_, gA189, iA190, iB191, iC192, iD193, iE194, iF195, iG196, iH197, gC198, gP199⟩, ⟨by omega, by omega⟩, by (try dsimp only); exact (fun hb => by have y0 := hN176 hb; exact ⟨y0.1, by rw [hio0]; exact ⟨by omega, gcl_i (y := tN172.toInt.toNat) (gc_lt (c := cd fc) (e := e.toInt.toNat) (p := tk.toInt.toNat) (by omega)) (Or.inr ⟨by omega, by rw [show tk.toInt.toNat + 1 = tN145.toInt.toNat by omega]; exact (hio ▸ y0.2)⟩) (Or.inr ⟨by omega, rfl⟩)⟩⟩)⟩)⟩
      · -- taken 0
        refine hx_if_ne (l := 16) rfl rfl (fun h236 => by omega) (fun h236 => ?_)
        refine ax_go 1 (y := (17, [some (.ref o)], [.ref o], w121, 0, 0)) rfl trivial ?_
        refine hx_k (l := 18) (m := 3) rfl rfl (by decide) (fun z237 h238 => ?_)
        refine hx_pi (l := 21) (as := [.ref o, .int z237]) rfl rfl (hx_iv (j := 152) (n := 1) (o := o) (r := []) rfl rfl gA131 rfl) (hp_X9_takes0 (fz := fz) hF (pc := pc) (pp := pp) (fc := fc) (fp := fp) (tk := tk) (e := e) (bd := bd) (io := io) (fw := fw) (lw := lw) hok ⟨by omega, by omega⟩ (fun q hq => (by decide +kernel : ∀ q ∈ fb_hp_X9_readClause, q ∈ fb_hp_X9_takes0) q (hfz q hq)) (d + 67)) hw122 hf123 ⟨(hx_tr (G := G) (s := 30) (b := 0) hG0 (by decide)), (hx_ti (G := G) (lo := 1) (hi := 355) (by omega) (by omega)), trivial⟩ (fun o1 h1 => by cases h1; exact ⟨_, gA131, iA132, iB133, iC134, iD135, iE136, iF137, iG138, iH139, gC140, gP141⟩) (fun w239 z244 hw240 hf241 m242 a245 b246 u247 => ?_)
        have hs243 := ty_same_tr hs125 m242
        rcases u247 _ _ _ rfl rfl with ⟨hz260, hb261, hg262, tN263, ⟨fsN248, gA249, iA250, iB251, iC252, iD253, iE254, iF255, iG256, iH257, gC258, gP259⟩, ht264, hu265⟩ | ⟨hz260, hg262, ⟨fsN248, gA249, iA250, iB251, iC252, iD253, iE254, iF255, iG256, iH257, gC258, gP259⟩⟩
        · -- taken 1
          refine hx_if_eq (l := 24) rfl rfl (fun h266 => by omega) (fun h266 => ?_)
          refine ax_go 1 (y := (25, [some (.ref o)], [.ref o], w239, 0, 0)) rfl trivial ?_
          refine hx_k (l := 26) (m := 0) rfl rfl (by decide) (fun z267 h268 => ?_)
          refine hx_p0 (l := 29) (as := [.ref o, .int z267]) rfl rfl (hx_iv (j := 163) (n := 1) (o := o) (r := []) rfl rfl gA249 rfl) ((re_all (fz := fz) hF (fun q hq => (by decide +kernel : ∀ q ∈ fb_hp_X9_readClause, q ∈ fb_re) q (hfz q hq)) 8).2.2.1 pc pp fc fp tN263 e bd io fw lw (d + 69) hok ⟨by omega, by omega⟩ (by omega)) hw240 hf241 ⟨(hx_tr (G := G) (s := 30) (b := 0) hG0 (by decide)), (hx_ti (G := G) (lo := 0) (hi := 8) (by omega) (by omega)), trivial⟩ (fun o1 l1 h1 => by cases h1; exact ⟨⟨_, gA249, iA250, iB251, iC252, iD253, iE254, iF255, iG256, iH257, gC258, gP259⟩, by omega⟩) (fun w269 hw270 hf271 m272 u277 => ?_)
          have hs273 := ty_same_tr hs243 m272
          obtain ⟨tN290, bN291, ⟨fsN278, gA279, iA280, iB281, iC282, iD283, iE284, iF285, iG286, iH287, gC288, gP289⟩, ⟨ha292, hb293⟩, hN294⟩ := u277 _ rfl
          try dsimp only at hN294
          refine ax_go 2 (y := (38, [some (.ref o)], [.ref o], w269, 0, 0)) rfl trivial ?_
          refine hx_k (l := 39) (m := 5) rfl rfl (by decide) (fun z295 h296 => ?_)
          refine hx_pi (l := 42) (as := [.ref o, .int z295]) rfl rfl (hx_iv (j := 152) (n := 1) (o := o) (r := []) rfl rfl gA279 rfl) (hp_X9_takes0 (fz := fz) hF (pc := pc) (pp := pp) (fc := fc) (fp := fp) (tk := tN290) (e := e) (bd := bN291) (io := io) (fw := fw) (lw := lw) hok ⟨by omega, by omega⟩ (fun q hq => (by decide +kernel : ∀ q ∈ fb_hp_X9_readClause, q ∈ fb_hp_X9_takes0) q (hfz q hq)) (d + 67)) hw270 hf271 ⟨(hx_tr (G := G) (s := 30) (b := 0) hG0 (by decide)), (hx_ti (G := G) (lo := 1) (hi := 355) (by omega) (by omega)), trivial⟩ (fun o1 h1 => by cases h1; exact ⟨_, gA279, iA280, iB281, iC282, iD283, iE284, iF285, iG286, iH287, gC288, gP289⟩) (fun w297 z302 hw298 hf299 m300 a303 b304 u305 => ?_)
          have hs301 := ty_same_tr hs273 m300
          rcases u305 _ _ _ rfl rfl with ⟨hz318, hb319, hg320, tN321, ⟨fsN306, gA307, iA308, iB309, iC310, iD311, iE312, iF313, iG314, iH315, gC316, gP317⟩, ht322, hu323⟩ | ⟨hz318, hg320, ⟨fsN306, gA307, iA308, iB309, iC310, iD311, iE312, iF313, iG314, iH315, gC316, gP317⟩⟩
          · -- taken 1
            refine hx_if_eq (l := 45) rfl rfl (fun h324 => by omega) (fun h324 => ?_)
            refine ax_go 1 (y := (46, [some (.ref o)], [.ref o], w297, 0, 0)) rfl trivial ?_
            refine hx_k (l := 47) (m := 0) rfl rfl (by decide) (fun z325 h326 => ?_)
            refine hx_p0 (l := 50) (as := [.ref o, .int z325]) rfl rfl (hx_iv (j := 160) (n := 1) (o := o) (r := []) rfl rfl gA307 rfl) ((re_all (fz := fz) hF (fun q hq => (by decide +kernel : ∀ q ∈ fb_hp_X9_readClause, q ∈ fb_re) q (hfz q hq)) 8).2.2.2.2.2 pc pp fc fp tN321 e bN291 io fw lw (d + 69) hok ⟨by omega, by omega⟩ (by omega)) hw298 hf299 ⟨(hx_tr (G := G) (s := 30) (b := 0) hG0 (by decide)), (hx_ti (G := G) (lo := 0) (hi := 8) (by omega) (by omega)), trivial⟩ (fun o1 l1 h1 => by cases h1; exact ⟨⟨_, gA307, iA308, iB309, iC310, iD311, iE312, iF313, iG314, iH315, gC316, gP317⟩, by omega⟩) (fun w327 hw328 hf329 m330 u335 => ?_)
            have hs331 := ty_same_tr hs301 m330
            obtain ⟨tN348, bN349, ⟨fsN336, gA337, iA338, iB339, iC340, iD341, iE342, iF343, iG344, iH345, gC346, gP347⟩, ⟨ha350, hb351⟩, hN352⟩ := u335 _ rfl
            try dsimp only at hN352
            exact ax_ret rfl rfl trivial ⟨none, _, rfl, hw328, hf329, hs331, trivial, (fun o1 h1 => by cases h1; exact ⟨tN348, bN349, ⟨_, gA337, iA338, iB339, iC340, iD341, iE342, iF343, iG344, iH345, gC346, gP347⟩, ⟨by omega, by omega⟩, by (try dsimp only); exact (fun hb => by have y0 := hN352 hb; have y1 := hN294 y0.1; exact ⟨y1.1, by rw [hio0]; exact ⟨by omega, gcl_i (y := tN290.toInt.toNat) (gc_lt (c := cd fc) (e := e.toInt.toNat) (p := tk.toInt.toNat) (by omega)) (Or.inr ⟨by omega, by rw [show tk.toInt.toNat + 1 = tN263.toInt.toNat by omega]; exact (hio ▸ y1.2)⟩) (Or.inl ⟨by omega, by rw [show tN290.toInt.toNat + 1 = tN321.toInt.toNat by omega]; exact (hio ▸ y0.2)⟩)⟩⟩)⟩)⟩
          · -- taken 0
            refine hx_if_eq (l := 45) rfl rfl (fun h353 => ?_) (fun h353 => by omega)
            exact ax_ret rfl rfl trivial ⟨none, _, rfl, hw298, hf299, hs301, trivial, (fun o1 h1 => by cases h1; exact ⟨tN290, bN291, ⟨_, gA307, iA308, iB309, iC310, iD311, iE312, iF313, iG314, iH315, gC316, gP317⟩, ⟨by omega, by omega⟩, by (try dsimp only); exact (fun hb => by have y0 := hN294 hb; exact ⟨y0.1, by rw [hio0]; exact ⟨by omega, gcl_i (y := tN290.toInt.toNat) (gc_lt (c := cd fc) (e := e.toInt.toNat) (p := tk.toInt.toNat) (by omega)) (Or.inr ⟨by omega, by rw [show tk.toInt.toNat + 1 = tN263.toInt.toNat by omega]; exact (hio ▸ y0.2)⟩) (Or.inr ⟨by omega, rfl⟩)⟩⟩)⟩)⟩
        · -- taken 0
          refine hx_if_eq (l := 24) rfl rfl (fun h354 => ?_) (fun h354 => by omega)
          refine ax_go 1 (y := (33, [some (.ref o)], [.ref o], w239, 0, 0)) rfl trivial ?_
          refine hx_k (l := 34) (m := 4) rfl rfl (by decide) (fun z355 h356 => ?_)
          refine hx_p0 (l := 37) (as := [.ref o, .int z355]) rfl rfl (hx_iv (j := 153) (n := 1) (o := o) (r := []) rfl rfl gA249 rfl) (hp_X9_must (fz := fz) hF (pc := pc) (pp := pp) (fc := fc) (fp := fp) (tk := tk) (e := e) (bd := bd) (io := io) (fw := fw) (lw := lw) hok ⟨by omega, by omega⟩ (fun q hq => (by decide +kernel : ∀ q ∈ fb_hp_X9_readClause, q ∈ fb_hp_X9_must) q (hfz q hq)) (d + 66)) hw240 hf241 ⟨(hx_tr (G := G) (s := 30) (b := 0) hG0 (by decide)), (hx_ti (G := G) (lo := 1) (hi := 355) (by omega) (by omega)), trivial⟩ (fun o1 h1 => by cases h1; exact ⟨_, gA249, iA250, iB251, iC252, iD253, iE254, iF255, iG256, iH257, gC258, gP259⟩) (fun w357 hw358 hf359 m360 u365 => ?_)
          have hs361 := ty_same_tr hs243 m360
          obtain ⟨tN378, bN379, ⟨fsN366, gA367, iA368, iB369, iC370, iD371, iE372, iF373, iG374, iH375, gC376, gP377⟩, ⟨ha380, hb381⟩, hN382⟩ := u365 _ _ rfl _ rfl
          try dsimp only at hN382
          refine ax_go 1 (y := (38, [some (.ref o)], [.ref o], w357, 0, 0)) rfl trivial ?_
          refine hx_k (l := 39) (m := 5) rfl rfl (by decide) (fun z383 h384 => ?_)
          refine hx_pi (l := 42) (as := [.ref o, .int z383]) rfl rfl (hx_iv (j := 152) (n := 1) (o := o) (r := []) rfl rfl gA367 rfl) (hp_X9_takes0 (fz := fz) hF (pc := pc) (pp := pp) (fc := fc) (fp := fp) (tk := tN378) (e := e) (bd := bN379) (io := io) (fw := fw) (lw := lw) hok ⟨by omega, by omega⟩ (fun q hq => (by decide +kernel : ∀ q ∈ fb_hp_X9_readClause, q ∈ fb_hp_X9_takes0) q (hfz q hq)) (d + 67)) hw358 hf359 ⟨(hx_tr (G := G) (s := 30) (b := 0) hG0 (by decide)), (hx_ti (G := G) (lo := 1) (hi := 355) (by omega) (by omega)), trivial⟩ (fun o1 h1 => by cases h1; exact ⟨_, gA367, iA368, iB369, iC370, iD371, iE372, iF373, iG374, iH375, gC376, gP377⟩) (fun w385 z390 hw386 hf387 m388 a391 b392 u393 => ?_)
          have hs389 := ty_same_tr hs361 m388
          rcases u393 _ _ _ rfl rfl with ⟨hz406, hb407, hg408, tN409, ⟨fsN394, gA395, iA396, iB397, iC398, iD399, iE400, iF401, iG402, iH403, gC404, gP405⟩, ht410, hu411⟩ | ⟨hz406, hg408, ⟨fsN394, gA395, iA396, iB397, iC398, iD399, iE400, iF401, iG402, iH403, gC404, gP405⟩⟩
          · -- taken 1
            refine hx_if_eq (l := 45) rfl rfl (fun h412 => by omega) (fun h412 => ?_)
            refine ax_go 1 (y := (46, [some (.ref o)], [.ref o], w385, 0, 0)) rfl trivial ?_
            refine hx_k (l := 47) (m := 0) rfl rfl (by decide) (fun z413 h414 => ?_)
            refine hx_p0 (l := 50) (as := [.ref o, .int z413]) rfl rfl (hx_iv (j := 160) (n := 1) (o := o) (r := []) rfl rfl gA395 rfl) ((re_all (fz := fz) hF (fun q hq => (by decide +kernel : ∀ q ∈ fb_hp_X9_readClause, q ∈ fb_re) q (hfz q hq)) 8).2.2.2.2.2 pc pp fc fp tN409 e bN379 io fw lw (d + 69) hok ⟨by omega, by omega⟩ (by omega)) hw386 hf387 ⟨(hx_tr (G := G) (s := 30) (b := 0) hG0 (by decide)), (hx_ti (G := G) (lo := 0) (hi := 8) (by omega) (by omega)), trivial⟩ (fun o1 l1 h1 => by cases h1; exact ⟨⟨_, gA395, iA396, iB397, iC398, iD399, iE400, iF401, iG402, iH403, gC404, gP405⟩, by omega⟩) (fun w415 hw416 hf417 m418 u423 => ?_)
            have hs419 := ty_same_tr hs389 m418
            obtain ⟨tN436, bN437, ⟨fsN424, gA425, iA426, iB427, iC428, iD429, iE430, iF431, iG432, iH433, gC434, gP435⟩, ⟨ha438, hb439⟩, hN440⟩ := u423 _ rfl
            try dsimp only at hN440
            exact ax_ret rfl rfl trivial ⟨none, _, rfl, hw416, hf417, hs419, trivial, (fun o1 h1 => by cases h1; exact ⟨tN436, bN437, ⟨_, gA425, iA426, iB427, iC428, iD429, iE430, iF431, iG432, iH433, gC434, gP435⟩, ⟨by omega, by omega⟩, by (try dsimp only); exact (fun hb => by have y0 := hN440 hb; have y1 := hN382 y0.1; have z1 := y1.2.1; have z2 := y1.2.2; exact ⟨y1.1, by rw [hio0]; exact ⟨by omega, gcl_i (y := tN378.toInt.toNat) (gc_lt (c := cd fc) (e := e.toInt.toNat) (p := tk.toInt.toNat) (by omega)) (Or.inl ⟨by omega, by omega⟩) (Or.inl ⟨by omega, by rw [show tN378.toInt.toNat + 1 = tN409.toInt.toNat by omega]; exact (hio ▸ y0.2)⟩)⟩⟩)⟩)⟩
          · -- taken 0
            refine hx_if_eq (l := 45) rfl rfl (fun h441 => ?_) (fun h441 => by omega)
            exact ax_ret rfl rfl trivial ⟨none, _, rfl, hw386, hf387, hs389, trivial, (fun o1 h1 => by cases h1; exact ⟨tN378, bN379, ⟨_, gA395, iA396, iB397, iC398, iD399, iE400, iF401, iG402, iH403, gC404, gP405⟩, ⟨by omega, by omega⟩, by (try dsimp only); exact (fun hb => by have y0 := hN382 hb; have z1 := y0.2.1; have z2 := y0.2.2; exact ⟨y0.1, by rw [hio0]; exact ⟨by omega, gcl_i (y := tN378.toInt.toNat) (gc_lt (c := cd fc) (e := e.toInt.toNat) (p := tk.toInt.toNat) (by omega)) (Or.inl ⟨by omega, by omega⟩) (Or.inr ⟨by omega, rfl⟩)⟩⟩)⟩)⟩
def fb_hp_X9_readOrder : List (Nat × Nat) := [(8, 3), (8, 5), (19, 999), (32, 999), (33, 999), (34, 999), (35, 999), (44, 999), (45, 999), (1, 0), (18, 999), (2, 11), (2, 14), (1, 15), (54, 11), (4, 2), (7, 9), (30, 13), (30, 34), (30, 2), (30, 22), (30, 23), (30, 24), (30, 25), (46, 999), (47, 999), (30, 35), (30, 36), (7, 0), (24, 999), (37, 999), (30, 4), (30, 5), (30, 6), (30, 8), (30, 9), (30, 10), (30, 11), (30, 14), (30, 15), (30, 16), (30, 17), (30, 18), (39, 999), (40, 999), (41, 999), (30, 30), (30, 42), (30, 43), (30, 44), (1, 1), (1, 3), (1, 10), (1, 13), (8, 0), (30, 49), (2, 15), (8, 1)]
set_option maxHeartbeats 8000000 in
theorem hp_X9_readOrder {ro : ab_R} {G : Nat → Nat} {fz : List (Nat × Nat)} {F : ab_W → Prop} (hF : ∀ w w', smt G w w' → F w → F w') {pc pp : Nat} {fc fp : Nat → Int32} {tk e bd io fw lw : Int32} (hok : pa_ok fc fp e io fw lw) (htk : 0 ≤ tk.toInt ∧ tk.toInt ≤ e.toInt) (hi0 : io.toInt ≠ 0) (hfz : ∀ q ∈ fz, q ∈ fb_hp_X9_readOrder) (d : Nat) : hx_ct ro sp_ G (F9 G F) fz (ab_Ev ro ab_codes (d + 70)) 158 [(2, 30, 0)] none (paP pc pp fc fp tk e bd io fw lw) (paR pc pp fc fp tk e bd io fw lw (fun t => GK (decide (io.toInt ≠ 0)) (cd fc) e.toInt.toNat tk.toInt.toNat t.toInt.toNat)) := by
  have hFF := F9_same hF
  refine hx_hand (d := d + 69) (by decide) (fun as w hw hf has hP => ?_)
  match as, has with
  | [v0], ⟨h0, _⟩ =>
    obtain ⟨o, rfl, _, hG0⟩ := ty_refn h0 rfl rfl
    replace hG0 : G o = 30 := hG0
    refine ⟨rfl, ?_⟩
    obtain ⟨fs0, g0, i15, i17, i19, i18, i21, i10, i8, i9, gc0, gp0⟩ := hP o rfl
    obtain ⟨⟨he0, he1⟩, hz0, hpl, -, -⟩ := id hok
    have hfw := pa_fw hok
    have hG_pc := pa_r15 hw g0 hG0 i15
    have hG_pp := pa_r17 hw g0 hG0 i17
    have hio0 : decide (io.toInt ≠ 0) = true := decide_eq_true (by omega)
    have hio := hio0
    have ct95 : ∀ (w1 : ab_W) (tr : Int32) (br : Int32), ty_w sp_ G w1 → (F9 G F) w1 → ty_same G fz w w1 → (hx_has w1 o 9 19 (.int tr)) → (hx_has w1 o 9 21 (.int br)) → (hx_has w1 o 9 15 (.ref pc)) → (hx_has w1 o 9 17 (.ref pp)) → (hx_has w1 o 9 18 (.int e)) → (hx_has w1 o 9 10 (.int io)) → (hx_has w1 o 9 8 (.int fw)) → (hx_has w1 o 9 9 (.int lw)) → (w1[pc]? = some (.inl (0, 401, .inl fc))) → (w1[pp]? = some (.inl (0, 401, .inl fp))) → (tk.toInt ≤ tr.toInt) → (tr.toInt ≤ e.toInt) → (br.toInt = -1 → tk.toInt < tr.toInt) → (br.toInt = -1 → bd.toInt = -1 ∧ ∃ y, goA (cd fc) e.toInt.toNat tk.toInt.toNat y ∧ goB (cd fc) e.toInt.toNat y tr.toInt.toNat) → ab_wp ro (ab_Ev ro ab_codes (d + 69)) 9 false none ab_k_X9_readOrder (fun o_1 => ∃ v w1, o_1 = (v, w1, 0, 0) ∧ ty_w sp_ G w1 ∧ (F9 G F) w1 ∧ ty_same G fz w w1 ∧ ck_res G none v ∧ (paR pc pp fc fp tk e bd io fw lw (fun t => GK (decide (io.toInt ≠ 0)) (cd fc) e.toInt.toNat tk.toInt.toNat t.toInt.toNat)) ([.ref o] : List Value) w v w1) (95, [some (.ref o)], [], w1, 0, 0) := by
      intro w1 tr br hw14 hf15 hs16 hh2 hh3 hh4 hh5 hh6 hh7 hh8 hh9 g10 g11 i12 i13 hlt2 hB
      obtain ⟨fs17, g18, e19⟩ := hh2
      have q20 := hx_oq hw14 g18 hG0 (s := 30) rfl
      obtain ⟨x21, e22, a23, b24⟩ := hx_fi (k := 19) (lo := 0) (hi := 400) q20 rfl
      obtain rfl : tr = x21 := hx_inji e19 e22
      obtain ⟨fs25, g26, e27⟩ := hh3
      obtain rfl : fs17 = fs25 := hx_inj g18 g26
      obtain ⟨x28, e29, a30, b31⟩ := hx_fi (k := 21) (lo := (-2147483648)) (hi := 2147483647) q20 rfl
      obtain rfl : br = x28 := hx_inji e27 e29
      obtain ⟨fs32, g33, e34⟩ := hh4
      obtain rfl : fs17 = fs32 := hx_inj g18 g33
      obtain ⟨fs35, g36, e37⟩ := hh5
      obtain rfl : fs17 = fs35 := hx_inj g18 g36
      obtain ⟨fs38, g39, e40⟩ := hh6
      obtain rfl : fs17 = fs38 := hx_inj g18 g39
      obtain ⟨fs41, g42, e43⟩ := hh7
      obtain rfl : fs17 = fs41 := hx_inj g18 g42
      obtain ⟨fs44, g45, e46⟩ := hh8
      obtain rfl : fs17 = fs44 := hx_inj g18 g45
      obtain ⟨fs47, g48, e49⟩ := hh9
      obtain rfl : fs17 = fs47 := hx_inj g18 g48
      refine ax_go 1 (y := (96, [some (.ref o)], [.ref o], w1, 0, 0)) rfl trivial ?_
      refine hx_k (l := 97) (m := 5) rfl rfl (by decide) (fun z50 h51 => ?_)
      refine hx_pi (l := 100) (as := [.ref o, .int z50]) rfl rfl (hx_iv (j := 152) (n := 1) (o := o) (r := []) rfl rfl g18 rfl) (hp_X9_takes0 (fz := fz) hF (pc := pc) (pp := pp) (fc := fc) (fp := fp) (tk := tr) (e := e) (bd := br) (io := io) (fw := fw) (lw := lw) hok ⟨by omega, by omega⟩ (fun q hq => (by decide +kernel : ∀ q ∈ fb_hp_X9_readOrder, q ∈ fb_hp_X9_takes0) q (hfz q hq)) (d + 67)) hw14 hf15 ⟨(hx_tr (G := G) (s := 30) (b := 0) hG0 (by decide)), (hx_ti (G := G) (lo := 1) (hi := 355) (by omega) (by omega)), trivial⟩ (fun o1 h1 => by cases h1; exact ⟨_, g18, e34, e37, e19, e40, e27, e43, e46, e49, g10, g11⟩) (fun w52 z57 hw53 hf54 m55 a58 b59 u60 => ?_)
      have hs56 := ty_same_tr hs16 m55
      rcases u60 _ _ _ rfl rfl with ⟨hz73, hb74, hg75, tN76, ⟨fsN61, gA62, iA63, iB64, iC65, iD66, iE67, iF68, iG69, iH70, gC71, gP72⟩, ht77, hu78⟩ | ⟨hz73, hg75, ⟨fsN61, gA62, iA63, iB64, iC65, iD66, iE67, iF68, iG69, iH70, gC71, gP72⟩⟩
      · -- taken 1
        refine hx_if_eq (l := 103) rfl rfl (fun h79 => by omega) (fun h79 => ?_)
        refine ax_go 1 (y := (104, [some (.ref o)], [.ref o], w52, 0, 0)) rfl trivial ?_
        refine hx_k (l := 105) (m := 0) rfl rfl (by decide) (fun z80 h81 => ?_)
        refine hx_p0 (l := 108) (as := [.ref o, .int z80]) rfl rfl (hx_iv (j := 160) (n := 1) (o := o) (r := []) rfl rfl gA62 rfl) ((re_all (fz := fz) hF (fun q hq => (by decide +kernel : ∀ q ∈ fb_hp_X9_readOrder, q ∈ fb_re) q (hfz q hq)) 8).2.2.2.2.2 pc pp fc fp tN76 e br io fw lw (d + 69) hok ⟨by omega, by omega⟩ (by omega)) hw53 hf54 ⟨(hx_tr (G := G) (s := 30) (b := 0) hG0 (by decide)), (hx_ti (G := G) (lo := 0) (hi := 8) (by omega) (by omega)), trivial⟩ (fun o1 l1 h1 => by cases h1; exact ⟨⟨_, gA62, iA63, iB64, iC65, iD66, iE67, iF68, iG69, iH70, gC71, gP72⟩, by omega⟩) (fun w82 hw83 hf84 m85 u90 => ?_)
        have hs86 := ty_same_tr hs56 m85
        obtain ⟨tN103, bN104, ⟨fsN91, gA92, iA93, iB94, iC95, iD96, iE97, iF98, iG99, iH100, gC101, gP102⟩, ⟨ha105, hb106⟩, hN107⟩ := u90 _ rfl
        try dsimp only at hN107
        exact ax_ret rfl rfl trivial ⟨none, _, rfl, hw83, hf84, hs86, trivial, (fun o1 h1 => by cases h1; exact ⟨tN103, bN104, ⟨_, gA92, iA93, iB94, iC95, iD96, iE97, iF98, iG99, iH100, gC101, gP102⟩, ⟨by omega, by omega⟩, by (try dsimp only); exact (fun hb => by have y0 := hN107 hb; obtain ⟨y1, y2, y3, y4⟩ := hB y0.1; exact ⟨y1, by rw [hio0]; exact ⟨by omega, gor_i y3 y4 (Or.inl ⟨by omega, by rw [show tr.toInt.toNat + 1 = tN76.toInt.toNat by omega]; exact (hio ▸ y0.2)⟩)⟩⟩)⟩)⟩
      · -- taken 0
        refine hx_if_eq (l := 103) rfl rfl (fun h108 => ?_) (fun h108 => by omega)
        exact ax_ret rfl rfl trivial ⟨none, _, rfl, hw53, hf54, hs56, trivial, (fun o1 h1 => by cases h1; exact ⟨tr, br, ⟨_, gA62, iA63, iB64, iC65, iD66, iE67, iF68, iG69, iH70, gC71, gP72⟩, ⟨by omega, by omega⟩, by (try dsimp only); exact (fun hb => by obtain ⟨y1, y2, y3, y4⟩ := hB hb; exact ⟨y1, by rw [hio0]; exact ⟨by omega, gor_i y3 y4 (Or.inr ⟨by omega, rfl⟩)⟩⟩)⟩)⟩
    have ct79 : ∀ (w109 : ab_W) (tq : Int32) (bq : Int32), ty_w sp_ G w109 → (F9 G F) w109 → ty_same G fz w w109 → (hx_has w109 o 9 19 (.int tq)) → (hx_has w109 o 9 21 (.int bq)) → (hx_has w109 o 9 15 (.ref pc)) → (hx_has w109 o 9 17 (.ref pp)) → (hx_has w109 o 9 18 (.int e)) → (hx_has w109 o 9 10 (.int io)) → (hx_has w109 o 9 8 (.int fw)) → (hx_has w109 o 9 9 (.int lw)) → (w109[pc]? = some (.inl (0, 401, .inl fc))) → (w109[pp]? = some (.inl (0, 401, .inl fp))) → (tk.toInt ≤ tq.toInt) → (tq.toInt ≤ e.toInt) → (bq.toInt = -1 → tk.toInt < tq.toInt) → (bq.toInt = -1 → bd.toInt = -1 ∧ goA (cd fc) e.toInt.toNat tk.toInt.toNat tq.toInt.toNat) → ab_wp ro (ab_Ev ro ab_codes (d + 69)) 9 false none ab_k_X9_readOrder (fun o_1 => ∃ v w1, o_1 = (v, w1, 0, 0) ∧ ty_w sp_ G w1 ∧ (F9 G F) w1 ∧ ty_same G fz w w1 ∧ ck_res G none v ∧ (paR pc pp fc fp tk e bd io fw lw (fun t => GK (decide (io.toInt ≠ 0)) (cd fc) e.toInt.toNat tk.toInt.toNat t.toInt.toNat)) ([.ref o] : List Value) w v w1) (79, [some (.ref o)], [], w109, 0, 0) := by
      intro w109 tq bq hw122 hf123 hs124 hh110 hh111 hh112 hh113 hh114 hh115 hh116 hh117 g118 g119 i120 i121 hlt hA
      obtain ⟨fs125, g126, e127⟩ := hh110
      have q128 := hx_oq hw122 g126 hG0 (s := 30) rfl
      obtain ⟨x129, e130, a131, b132⟩ := hx_fi (k := 19) (lo := 0) (hi := 400) q128 rfl
      obtain rfl : tq = x129 := hx_inji e127 e130
      obtain ⟨fs133, g134, e135⟩ := hh111
      obtain rfl : fs125 = fs133 := hx_inj g126 g134
      obtain ⟨x136, e137, a138, b139⟩ := hx_fi (k := 21) (lo := (-2147483648)) (hi := 2147483647) q128 rfl
      obtain rfl : bq = x136 := hx_inji e135 e137
      obtain ⟨fs140, g141, e142⟩ := hh112
      obtain rfl : fs125 = fs140 := hx_inj g126 g141
      obtain ⟨fs143, g144, e145⟩ := hh113
      obtain rfl : fs125 = fs143 := hx_inj g126 g144
      obtain ⟨fs146, g147, e148⟩ := hh114
      obtain rfl : fs125 = fs146 := hx_inj g126 g147
      obtain ⟨fs149, g150, e151⟩ := hh115
      obtain rfl : fs125 = fs149 := hx_inj g126 g150
      obtain ⟨fs152, g153, e154⟩ := hh116
      obtain rfl : fs125 = fs152 := hx_inj g126 g153
      obtain ⟨fs155, g156, e157⟩ := hh117
      obtain rfl : fs125 = fs155 := hx_inj g126 g156
      refine ax_go 1 (y := (80, [some (.ref o)], [.ref o], w109, 0, 0)) rfl trivial ?_
      refine hx_k (l := 82) (m := 27) rfl rfl (by decide) (fun z158 h159 => ?_)
      refine hx_pi (l := 85) (as := [.ref o, .int z158]) rfl rfl (hx_iv (j := 152) (n := 1) (o := o) (r := []) rfl rfl g126 rfl) (hp_X9_takes0 (fz := fz) hF (pc := pc) (pp := pp) (fc := fc) (fp := fp) (tk := tq) (e := e) (bd := bq) (io := io) (fw := fw) (lw := lw) hok ⟨by omega, by omega⟩ (fun q hq => (by decide +kernel : ∀ q ∈ fb_hp_X9_readOrder, q ∈ fb_hp_X9_takes0) q (hfz q hq)) (d + 67)) hw122 hf123 ⟨(hx_tr (G := G) (s := 30) (b := 0) hG0 (by decide)), (hx_ti (G := G) (lo := 1) (hi := 355) (by omega) (by omega)), trivial⟩ (fun o1 h1 => by cases h1; exact ⟨_, g126, e142, e145, e127, e148, e135, e151, e154, e157, g118, g119⟩) (fun w160 z165 hw161 hf162 m163 a166 b167 u168 => ?_)
      have hs164 := ty_same_tr hs124 m163
      rcases u168 _ _ _ rfl rfl with ⟨hz181, hb182, hg183, tN184, ⟨fsN169, gA170, iA171, iB172, iC173, iD174, iE175, iF176, iG177, iH178, gC179, gP180⟩, ht185, hu186⟩ | ⟨hz181, hg183, ⟨fsN169, gA170, iA171, iB172, iC173, iD174, iE175, iF176, iG177, iH178, gC179, gP180⟩⟩
      · -- taken 1
        refine hx_if_eq (l := 88) rfl rfl (fun h187 => by omega) (fun h187 => ?_)
        refine ax_go 1 (y := (89, [some (.ref o)], [.ref o], w160, 0, 0)) rfl trivial ?_
        refine hx_k (l := 90) (m := 1) rfl rfl (by decide) (fun z188 h189 => ?_)
        refine hx_k (l := 92) (m := 20) rfl rfl (by decide) (fun z190 h191 => ?_)
        refine hx_p0 (l := 95) (as := [.ref o, .int z188, .int z190]) rfl rfl (hx_iv (j := 156) (n := 2) (o := o) (r := []) rfl rfl gA170 rfl) (hp_X9_mustNumber (fz := fz) hF (pc := pc) (pp := pp) (fc := fc) (fp := fp) (tk := tN184) (e := e) (bd := bq) (io := io) (fw := fw) (lw := lw) hok ⟨by omega, by omega⟩ (fun q hq => (by decide +kernel : ∀ q ∈ fb_hp_X9_readOrder, q ∈ fb_hp_X9_mustNumber) q (hfz q hq)) (d + 66)) hw161 hf162 ⟨(hx_tr (G := G) (s := 30) (b := 0) hG0 (by decide)), (ck_top_ok (G := G) z188), (ck_top_ok (G := G) z190), trivial⟩ (fun o1 h1 => by cases h1; exact ⟨_, gA170, iA171, iB172, iC173, iD174, iE175, iF176, iG177, iH178, gC179, gP180⟩) (fun w192 hw193 hf194 m195 u200 => ?_)
        have hs196 := ty_same_tr hs164 m195
        obtain ⟨tN213, bN214, ⟨fsN201, gA202, iA203, iB204, iC205, iD206, iE207, iF208, iG209, iH210, gC211, gP212⟩, ⟨ha215, hb216⟩, hN217⟩ := u200 _ rfl
        try dsimp only at hN217
        exact ct95 w192 tN213 bN214 hw193 hf194 hs196 ⟨_, gA202, iC205⟩ ⟨_, gA202, iE207⟩ ⟨_, gA202, iA203⟩ ⟨_, gA202, iB204⟩ ⟨_, gA202, iD206⟩ ⟨_, gA202, iF208⟩ ⟨_, gA202, iG209⟩ ⟨_, gA202, iH210⟩ gC211 gP212 (by omega) (by omega) (fun hb => by have y0 := hN217 hb; have := hlt y0.1; omega) (fun hb => by have y0 := hN217 hb; have y1 := hA y0.1; have z1 := y0.2.1; have z2 := y0.2.2; exact ⟨y1.1, tq.toInt.toNat, y1.2, Or.inl ⟨by omega, by rw [show tq.toInt.toNat + 1 = tN184.toInt.toNat by omega]; exact z1, by omega⟩⟩)
      · -- taken 0
        refine hx_if_eq (l := 88) rfl rfl (fun h218 => ?_) (fun h218 => by omega)
        exact ct95 w160 tq bq hw161 hf162 hs164 ⟨_, gA170, iC173⟩ ⟨_, gA170, iE175⟩ ⟨_, gA170, iA171⟩ ⟨_, gA170, iB172⟩ ⟨_, gA170, iD174⟩ ⟨_, gA170, iF176⟩ ⟨_, gA170, iG177⟩ ⟨_, gA170, iH178⟩ gC179 gP180 (by omega) (by omega) (fun hb => by have := hlt hb; omega) (fun hb => by have y1 := hA hb; exact ⟨y1.1, tq.toInt.toNat, y1.2, Or.inr ⟨by omega, by omega⟩⟩)
    change ab_wp ro (ab_Ev ro ab_codes (d + 69)) 9 false none ab_k_X9_readOrder (fun o_1 => ∃ v w1, o_1 = (v, w1, 0, 0) ∧ ty_w sp_ G w1 ∧ (F9 G F) w1 ∧ ty_same G fz w w1 ∧ ck_res G none v ∧ (paR pc pp fc fp tk e bd io fw lw (fun t => GK (decide (io.toInt ≠ 0)) (cd fc) e.toInt.toNat tk.toInt.toNat t.toInt.toNat)) ([.ref o] : List Value) w v w1) (0, [some (.ref o)], [], w, 0, 0)
    refine ax_go 1 (y := (1, [some (.ref o)], [.ref o], w, 0, 0)) rfl trivial ?_
    refine hx_k (l := 3) (m := 21) rfl rfl (by decide) (fun z219 h220 => ?_)
    refine hx_pi (l := 6) (as := [.ref o, .int z219]) rfl rfl (hx_iv (j := 152) (n := 1) (o := o) (r := []) rfl rfl g0 rfl) (hp_X9_takes0 (fz := fz) hF (pc := pc) (pp := pp) (fc := fc) (fp := fp) (tk := tk) (e := e) (bd := bd) (io := io) (fw := fw) (lw := lw) hok ⟨by omega, by omega⟩ (fun q hq => (by decide +kernel : ∀ q ∈ fb_hp_X9_readOrder, q ∈ fb_hp_X9_takes0) q (hfz q hq)) (d + 67)) hw hf ⟨(hx_tr (G := G) (s := 30) (b := 0) hG0 (by decide)), (hx_ti (G := G) (lo := 1) (hi := 355) (by omega) (by omega)), trivial⟩ (fun o1 h1 => by cases h1; exact ⟨_, g0, i15, i17, i19, i18, i21, i10, i8, i9, gc0, gp0⟩) (fun w221 z226 hw222 hf223 m224 a227 b228 u229 => ?_)
    have hs225 := ty_same_tr (ty_same_rf w) m224
    rcases u229 _ _ _ rfl rfl with ⟨hz242, hb243, hg244, tN245, ⟨fsN230, gA231, iA232, iB233, iC234, iD235, iE236, iF237, iG238, iH239, gC240, gP241⟩, ht246, hu247⟩ | ⟨hz242, hg244, ⟨fsN230, gA231, iA232, iB233, iC234, iD235, iE236, iF237, iG238, iH239, gC240, gP241⟩⟩
    · -- taken 1
      refine hx_if_eq (l := 9) rfl rfl (fun h248 => by omega) (fun h248 => ?_)
      refine ax_go 1 (y := (10, [some (.ref o)], [.ref o], w221, 0, 0)) rfl trivial ?_
      refine hx_k (l := 11) (m := 0) rfl rfl (by decide) (fun z249 h250 => ?_)
      refine hx_p0 (l := 14) (as := [.ref o, .int z249]) rfl rfl (hx_iv (j := 163) (n := 1) (o := o) (r := []) rfl rfl gA231 rfl) ((re_all (fz := fz) hF (fun q hq => (by decide +kernel : ∀ q ∈ fb_hp_X9_readOrder, q ∈ fb_re) q (hfz q hq)) 8).2.2.1 pc pp fc fp tN245 e bd io fw lw (d + 69) hok ⟨by omega, by omega⟩ (by omega)) hw222 hf223 ⟨(hx_tr (G := G) (s := 30) (b := 0) hG0 (by decide)), (hx_ti (G := G) (lo := 0) (hi := 8) (by omega) (by omega)), trivial⟩ (fun o1 l1 h1 => by cases h1; exact ⟨⟨_, gA231, iA232, iB233, iC234, iD235, iE236, iF237, iG238, iH239, gC240, gP241⟩, by omega⟩) (fun w251 hw252 hf253 m254 u259 => ?_)
      have hs255 := ty_same_tr hs225 m254
      obtain ⟨tN272, bN273, ⟨fsN260, gA261, iA262, iB263, iC264, iD265, iE266, iF267, iG268, iH269, gC270, gP271⟩, ⟨ha274, hb275⟩, hN276⟩ := u259 _ rfl
      try dsimp only at hN276
      refine ax_go 1 (y := (79, [some (.ref o)], [], w251, 0, 0)) rfl trivial ?_
      exact ct79 w251 tN272 bN273 hw252 hf253 hs255 ⟨_, gA261, iC264⟩ ⟨_, gA261, iE266⟩ ⟨_, gA261, iA262⟩ ⟨_, gA261, iB263⟩ ⟨_, gA261, iD265⟩ ⟨_, gA261, iF267⟩ ⟨_, gA261, iG268⟩ ⟨_, gA261, iH269⟩ gC270 gP271 (by omega) (by omega) (fun hb => by have y0 := hN276 hb; omega) (fun hb => by have y0 := hN276 hb; exact ⟨y0.1, Or.inr (Or.inl ⟨by omega, by rw [show tk.toInt.toNat + 1 = tN245.toInt.toNat by omega]; exact (hio ▸ y0.2)⟩)⟩)
    · -- taken 0
      refine hx_if_eq (l := 9) rfl rfl (fun h277 => ?_) (fun h277 => by omega)
      refine ax_go 1 (y := (18, [some (.ref o)], [.ref o], w221, 0, 0)) rfl trivial ?_
      refine hx_k (l := 20) (m := 23) rfl rfl (by decide) (fun z278 h279 => ?_)
      refine hx_pi (l := 23) (as := [.ref o, .int z278]) rfl rfl (hx_iv (j := 152) (n := 1) (o := o) (r := []) rfl rfl gA231 rfl) (hp_X9_takes0 (fz := fz) hF (pc := pc) (pp := pp) (fc := fc) (fp := fp) (tk := tk) (e := e) (bd := bd) (io := io) (fw := fw) (lw := lw) hok ⟨by omega, by omega⟩ (fun q hq => (by decide +kernel : ∀ q ∈ fb_hp_X9_readOrder, q ∈ fb_hp_X9_takes0) q (hfz q hq)) (d + 67)) hw222 hf223 ⟨(hx_tr (G := G) (s := 30) (b := 0) hG0 (by decide)), (hx_ti (G := G) (lo := 1) (hi := 355) (by omega) (by omega)), trivial⟩ (fun o1 h1 => by cases h1; exact ⟨_, gA231, iA232, iB233, iC234, iD235, iE236, iF237, iG238, iH239, gC240, gP241⟩) (fun w280 z285 hw281 hf282 m283 a286 b287 u288 => ?_)
      have hs284 := ty_same_tr hs225 m283
      rcases u288 _ _ _ rfl rfl with ⟨hz301, hb302, hg303, tN304, ⟨fsN289, gA290, iA291, iB292, iC293, iD294, iE295, iF296, iG297, iH298, gC299, gP300⟩, ht305, hu306⟩ | ⟨hz301, hg303, ⟨fsN289, gA290, iA291, iB292, iC293, iD294, iE295, iF296, iG297, iH298, gC299, gP300⟩⟩
      · -- taken 1
        refine hx_if_eq (l := 26) rfl rfl (fun h307 => by omega) (fun h307 => ?_)
        refine ax_go 1 (y := (27, [some (.ref o)], [.ref o], w280, 0, 0)) rfl trivial ?_
        refine hx_k (l := 28) (m := 0) rfl rfl (by decide) (fun z308 h309 => ?_)
        refine hx_p0 (l := 31) (as := [.ref o, .int z308]) rfl rfl (hx_iv (j := 163) (n := 1) (o := o) (r := []) rfl rfl gA290 rfl) ((re_all (fz := fz) hF (fun q hq => (by decide +kernel : ∀ q ∈ fb_hp_X9_readOrder, q ∈ fb_re) q (hfz q hq)) 8).2.2.1 pc pp fc fp tN304 e bd io fw lw (d + 69) hok ⟨by omega, by omega⟩ (by omega)) hw281 hf282 ⟨(hx_tr (G := G) (s := 30) (b := 0) hG0 (by decide)), (hx_ti (G := G) (lo := 0) (hi := 8) (by omega) (by omega)), trivial⟩ (fun o1 l1 h1 => by cases h1; exact ⟨⟨_, gA290, iA291, iB292, iC293, iD294, iE295, iF296, iG297, iH298, gC299, gP300⟩, by omega⟩) (fun w310 hw311 hf312 m313 u318 => ?_)
        have hs314 := ty_same_tr hs284 m313
        obtain ⟨tN331, bN332, ⟨fsN319, gA320, iA321, iB322, iC323, iD324, iE325, iF326, iG327, iH328, gC329, gP330⟩, ⟨ha333, hb334⟩, hN335⟩ := u318 _ rfl
        try dsimp only at hN335
        refine ax_go 1 (y := (32, [some (.ref o)], [.ref o], w310, 0, 0)) rfl trivial ?_
        refine hx_k (l := 34) (m := 24) rfl rfl (by decide) (fun z336 h337 => ?_)
        refine hx_p0 (l := 37) (as := [.ref o, .int z336]) rfl rfl (hx_iv (j := 153) (n := 1) (o := o) (r := []) rfl rfl gA320 rfl) (hp_X9_must (fz := fz) hF (pc := pc) (pp := pp) (fc := fc) (fp := fp) (tk := tN331) (e := e) (bd := bN332) (io := io) (fw := fw) (lw := lw) hok ⟨by omega, by omega⟩ (fun q hq => (by decide +kernel : ∀ q ∈ fb_hp_X9_readOrder, q ∈ fb_hp_X9_must) q (hfz q hq)) (d + 66)) hw311 hf312 ⟨(hx_tr (G := G) (s := 30) (b := 0) hG0 (by decide)), (hx_ti (G := G) (lo := 1) (hi := 355) (by omega) (by omega)), trivial⟩ (fun o1 h1 => by cases h1; exact ⟨_, gA320, iA321, iB322, iC323, iD324, iE325, iF326, iG327, iH328, gC329, gP330⟩) (fun w338 hw339 hf340 m341 u346 => ?_)
        have hs342 := ty_same_tr hs314 m341
        obtain ⟨tN359, bN360, ⟨fsN347, gA348, iA349, iB350, iC351, iD352, iE353, iF354, iG355, iH356, gC357, gP358⟩, ⟨ha361, hb362⟩, hN363⟩ := u346 _ _ rfl _ rfl
        try dsimp only at hN363
        refine ax_go 1 (y := (38, [some (.ref o)], [.ref o], w338, 0, 0)) rfl trivial ?_
        refine hx_k (l := 39) (m := 0) rfl rfl (by decide) (fun z364 h365 => ?_)
        refine hx_p0 (l := 42) (as := [.ref o, .int z364]) rfl rfl (hx_iv (j := 163) (n := 1) (o := o) (r := []) rfl rfl gA348 rfl) ((re_all (fz := fz) hF (fun q hq => (by decide +kernel : ∀ q ∈ fb_hp_X9_readOrder, q ∈ fb_re) q (hfz q hq)) 8).2.2.1 pc pp fc fp tN359 e bN360 io fw lw (d + 69) hok ⟨by omega, by omega⟩ (by omega)) hw339 hf340 ⟨(hx_tr (G := G) (s := 30) (b := 0) hG0 (by decide)), (hx_ti (G := G) (lo := 0) (hi := 8) (by omega) (by omega)), trivial⟩ (fun o1 l1 h1 => by cases h1; exact ⟨⟨_, gA348, iA349, iB350, iC351, iD352, iE353, iF354, iG355, iH356, gC357, gP358⟩, by omega⟩) (fun w366 hw367 hf368 m369 u374 => ?_)
        have hs370 := ty_same_tr hs342 m369
        obtain ⟨tN387, bN388, ⟨fsN375, gA376, iA377, iB378, iC379, iD380, iE381, iF382, iG383, iH384, gC385, gP386⟩, ⟨ha389, hb390⟩, hN391⟩ := u374 _ rfl
        try dsimp only at hN391
        refine ax_go 1 (y := (79, [some (.ref o)], [], w366, 0, 0)) rfl trivial ?_
        exact ct79 w366 tN387 bN388 hw367 hf368 hs370 ⟨_, gA376, iC379⟩ ⟨_, gA376, iE381⟩ ⟨_, gA376, iA377⟩ ⟨_, gA376, iB378⟩ ⟨_, gA376, iD380⟩ ⟨_, gA376, iF382⟩ ⟨_, gA376, iG383⟩ ⟨_, gA376, iH384⟩ gC385 gP386 (by omega) (by omega) (fun hb => by have y0 := hN391 hb; have y1 := hN363 y0.1; have y2 := hN335 y1.1; omega) (fun hb => by have y0 := hN391 hb; have y1 := hN363 y0.1; have y2 := hN335 y1.1; exact ⟨y2.1, Or.inr (Or.inr ⟨by omega, by omega, tN331.toInt.toNat, by rw [show tk.toInt.toNat + 1 = tN304.toInt.toNat by omega]; exact (hio ▸ y2.2), by rw [show tN331.toInt.toNat + 1 = tN359.toInt.toNat by have := y1.2.2; omega]; exact (hio ▸ y0.2)⟩)⟩)
      · -- taken 0
        refine hx_if_eq (l := 26) rfl rfl (fun h392 => ?_) (fun h392 => by omega)
        refine ax_go 1 (y := (46, [some (.ref o)], [.ref o], w280, 0, 0)) rfl trivial ?_
        refine hx_k (l := 48) (m := 25) rfl rfl (by decide) (fun z393 h394 => ?_)
        refine hx_pi (l := 51) (as := [.ref o, .int z393]) rfl rfl (hx_iv (j := 152) (n := 1) (o := o) (r := []) rfl rfl gA290 rfl) (hp_X9_takes0 (fz := fz) hF (pc := pc) (pp := pp) (fc := fc) (fp := fp) (tk := tk) (e := e) (bd := bd) (io := io) (fw := fw) (lw := lw) hok ⟨by omega, by omega⟩ (fun q hq => (by decide +kernel : ∀ q ∈ fb_hp_X9_readOrder, q ∈ fb_hp_X9_takes0) q (hfz q hq)) (d + 67)) hw281 hf282 ⟨(hx_tr (G := G) (s := 30) (b := 0) hG0 (by decide)), (hx_ti (G := G) (lo := 1) (hi := 355) (by omega) (by omega)), trivial⟩ (fun o1 h1 => by cases h1; exact ⟨_, gA290, iA291, iB292, iC293, iD294, iE295, iF296, iG297, iH298, gC299, gP300⟩) (fun w395 z400 hw396 hf397 m398 a401 b402 u403 => ?_)
        have hs399 := ty_same_tr hs284 m398
        rcases u403 _ _ _ rfl rfl with ⟨hz416, hb417, hg418, tN419, ⟨fsN404, gA405, iA406, iB407, iC408, iD409, iE410, iF411, iG412, iH413, gC414, gP415⟩, ht420, hu421⟩ | ⟨hz416, hg418, ⟨fsN404, gA405, iA406, iB407, iC408, iD409, iE410, iF411, iG412, iH413, gC414, gP415⟩⟩
        · -- taken 1
          refine hx_if_eq (l := 54) rfl rfl (fun h422 => by omega) (fun h422 => ?_)
          refine ax_go 1 (y := (55, [some (.ref o)], [.ref o], w395, 0, 0)) rfl trivial ?_
          refine hx_k (l := 56) (m := 0) rfl rfl (by decide) (fun z423 h424 => ?_)
          refine hx_p0 (l := 59) (as := [.ref o, .int z423]) rfl rfl (hx_iv (j := 163) (n := 1) (o := o) (r := []) rfl rfl gA405 rfl) ((re_all (fz := fz) hF (fun q hq => (by decide +kernel : ∀ q ∈ fb_hp_X9_readOrder, q ∈ fb_re) q (hfz q hq)) 8).2.2.1 pc pp fc fp tN419 e bd io fw lw (d + 69) hok ⟨by omega, by omega⟩ (by omega)) hw396 hf397 ⟨(hx_tr (G := G) (s := 30) (b := 0) hG0 (by decide)), (hx_ti (G := G) (lo := 0) (hi := 8) (by omega) (by omega)), trivial⟩ (fun o1 l1 h1 => by cases h1; exact ⟨⟨_, gA405, iA406, iB407, iC408, iD409, iE410, iF411, iG412, iH413, gC414, gP415⟩, by omega⟩) (fun w425 hw426 hf427 m428 u433 => ?_)
          have hs429 := ty_same_tr hs399 m428
          obtain ⟨tN446, bN447, ⟨fsN434, gA435, iA436, iB437, iC438, iD439, iE440, iF441, iG442, iH443, gC444, gP445⟩, ⟨ha448, hb449⟩, hN450⟩ := u433 _ rfl
          try dsimp only at hN450
          refine ax_go 1 (y := (60, [some (.ref o)], [.ref o], w425, 0, 0)) rfl trivial ?_
          refine hx_k (l := 62) (m := 26) rfl rfl (by decide) (fun z451 h452 => ?_)
          refine hx_p0 (l := 65) (as := [.ref o, .int z451]) rfl rfl (hx_iv (j := 153) (n := 1) (o := o) (r := []) rfl rfl gA435 rfl) (hp_X9_must (fz := fz) hF (pc := pc) (pp := pp) (fc := fc) (fp := fp) (tk := tN446) (e := e) (bd := bN447) (io := io) (fw := fw) (lw := lw) hok ⟨by omega, by omega⟩ (fun q hq => (by decide +kernel : ∀ q ∈ fb_hp_X9_readOrder, q ∈ fb_hp_X9_must) q (hfz q hq)) (d + 66)) hw426 hf427 ⟨(hx_tr (G := G) (s := 30) (b := 0) hG0 (by decide)), (hx_ti (G := G) (lo := 1) (hi := 355) (by omega) (by omega)), trivial⟩ (fun o1 h1 => by cases h1; exact ⟨_, gA435, iA436, iB437, iC438, iD439, iE440, iF441, iG442, iH443, gC444, gP445⟩) (fun w453 hw454 hf455 m456 u461 => ?_)
          have hs457 := ty_same_tr hs429 m456
          obtain ⟨tN474, bN475, ⟨fsN462, gA463, iA464, iB465, iC466, iD467, iE468, iF469, iG470, iH471, gC472, gP473⟩, ⟨ha476, hb477⟩, hN478⟩ := u461 _ _ rfl _ rfl
          try dsimp only at hN478
          refine ax_go 1 (y := (66, [some (.ref o)], [.ref o], w453, 0, 0)) rfl trivial ?_
          refine hx_k (l := 67) (m := 0) rfl rfl (by decide) (fun z479 h480 => ?_)
          refine hx_p0 (l := 70) (as := [.ref o, .int z479]) rfl rfl (hx_iv (j := 163) (n := 1) (o := o) (r := []) rfl rfl gA463 rfl) ((re_all (fz := fz) hF (fun q hq => (by decide +kernel : ∀ q ∈ fb_hp_X9_readOrder, q ∈ fb_re) q (hfz q hq)) 8).2.2.1 pc pp fc fp tN474 e bN475 io fw lw (d + 69) hok ⟨by omega, by omega⟩ (by omega)) hw454 hf455 ⟨(hx_tr (G := G) (s := 30) (b := 0) hG0 (by decide)), (hx_ti (G := G) (lo := 0) (hi := 8) (by omega) (by omega)), trivial⟩ (fun o1 l1 h1 => by cases h1; exact ⟨⟨_, gA463, iA464, iB465, iC466, iD467, iE468, iF469, iG470, iH471, gC472, gP473⟩, by omega⟩) (fun w481 hw482 hf483 m484 u489 => ?_)
          have hs485 := ty_same_tr hs457 m484
          obtain ⟨tN502, bN503, ⟨fsN490, gA491, iA492, iB493, iC494, iD495, iE496, iF497, iG498, iH499, gC500, gP501⟩, ⟨ha504, hb505⟩, hN506⟩ := u489 _ rfl
          try dsimp only at hN506
          refine ax_go 1 (y := (79, [some (.ref o)], [], w481, 0, 0)) rfl trivial ?_
          exact ct79 w481 tN502 bN503 hw482 hf483 hs485 ⟨_, gA491, iC494⟩ ⟨_, gA491, iE496⟩ ⟨_, gA491, iA492⟩ ⟨_, gA491, iB493⟩ ⟨_, gA491, iD495⟩ ⟨_, gA491, iF497⟩ ⟨_, gA491, iG498⟩ ⟨_, gA491, iH499⟩ gC500 gP501 (by omega) (by omega) (fun hb => by have y0 := hN506 hb; have y1 := hN478 y0.1; have y2 := hN450 y1.1; omega) (fun hb => by have y0 := hN506 hb; have y1 := hN478 y0.1; have y2 := hN450 y1.1; exact ⟨y2.1, Or.inr (Or.inr ⟨by omega, by omega, tN446.toInt.toNat, by rw [show tk.toInt.toNat + 1 = tN419.toInt.toNat by omega]; exact (hio ▸ y2.2), by rw [show tN446.toInt.toNat + 1 = tN474.toInt.toNat by have := y1.2.2; omega]; exact (hio ▸ y0.2)⟩)⟩)
        · -- taken 0
          refine hx_if_eq (l := 54) rfl rfl (fun h507 => ?_) (fun h507 => by omega)
          refine ax_go 1 (y := (74, [some (.ref o)], [.ref o], w395, 0, 0)) rfl trivial ?_
          refine hx_k (l := 76) (m := 22) rfl rfl (by decide) (fun z508 h509 => ?_)
          refine hx_p0 (l := 79) (as := [.ref o, .int z508]) rfl rfl (hx_iv (j := 153) (n := 1) (o := o) (r := []) rfl rfl gA405 rfl) (hp_X9_must (fz := fz) hF (pc := pc) (pp := pp) (fc := fc) (fp := fp) (tk := tk) (e := e) (bd := bd) (io := io) (fw := fw) (lw := lw) hok ⟨by omega, by omega⟩ (fun q hq => (by decide +kernel : ∀ q ∈ fb_hp_X9_readOrder, q ∈ fb_hp_X9_must) q (hfz q hq)) (d + 66)) hw396 hf397 ⟨(hx_tr (G := G) (s := 30) (b := 0) hG0 (by decide)), (hx_ti (G := G) (lo := 1) (hi := 355) (by omega) (by omega)), trivial⟩ (fun o1 h1 => by cases h1; exact ⟨_, gA405, iA406, iB407, iC408, iD409, iE410, iF411, iG412, iH413, gC414, gP415⟩) (fun w510 hw511 hf512 m513 u518 => ?_)
          have hs514 := ty_same_tr hs399 m513
          obtain ⟨tN531, bN532, ⟨fsN519, gA520, iA521, iB522, iC523, iD524, iE525, iF526, iG527, iH528, gC529, gP530⟩, ⟨ha533, hb534⟩, hN535⟩ := u518 _ _ rfl _ rfl
          try dsimp only at hN535
          exact ct79 w510 tN531 bN532 hw511 hf512 hs514 ⟨_, gA520, iC523⟩ ⟨_, gA520, iE525⟩ ⟨_, gA520, iA521⟩ ⟨_, gA520, iB522⟩ ⟨_, gA520, iD524⟩ ⟨_, gA520, iF526⟩ ⟨_, gA520, iG527⟩ ⟨_, gA520, iH528⟩ gC529 gP530 (by omega) (by omega) (fun hb => by have y0 := hN535 hb; have := y0.2.2; omega) (fun hb => by have y0 := hN535 hb; exact ⟨y0.1, Or.inl ⟨by have := y0.2.1; omega, by have := y0.2.2; omega⟩⟩)
def fb_hp_X9_readOne : List (Nat × Nat) := [(8, 3), (8, 5), (19, 999), (32, 999), (33, 999), (34, 999), (35, 999), (44, 999), (45, 999), (1, 0), (18, 999), (2, 11), (2, 14), (1, 15), (54, 11), (4, 2), (7, 9), (30, 13), (30, 34), (30, 2), (30, 22), (30, 23), (30, 24), (30, 25), (46, 999), (47, 999), (30, 35), (30, 36), (7, 0), (24, 999), (37, 999), (30, 4), (30, 5), (30, 6), (30, 8), (30, 9), (30, 10), (30, 11), (30, 14), (30, 15), (30, 16), (30, 17), (30, 18), (39, 999), (40, 999), (41, 999), (30, 30), (30, 42), (30, 43), (30, 44), (1, 1), (1, 3), (1, 10), (1, 13), (8, 0), (30, 49), (2, 15), (8, 1)]
set_option maxHeartbeats 8000000 in
theorem hp_X9_readOne {ro : ab_R} {G : Nat → Nat} {fz : List (Nat × Nat)} {F : ab_W → Prop} (hF : ∀ w w', smt G w w' → F w → F w') {pc pp : Nat} {fc fp : Nat → Int32} {tk e bd io fw lw : Int32} (hok : pa_ok fc fp e io fw lw) (htk : 0 ≤ tk.toInt ∧ tk.toInt ≤ e.toInt) (hfz : ∀ q ∈ fz, q ∈ fb_hp_X9_readOne) (d : Nat) : hx_ct ro sp_ G (F9 G F) fz (ab_Ev ro ab_codes (d + 71)) 159 [(2, 30, 0)] none (paP pc pp fc fp tk e bd io fw lw) (paR pc pp fc fp tk e bd io fw lw (fun t => GK (decide (io.toInt ≠ 0)) (cd fc) e.toInt.toNat tk.toInt.toNat t.toInt.toNat)) := by
  have hFF := F9_same hF
  refine hx_hand (d := d + 70) (by decide) (fun as w hw hf has hP => ?_)
  match as, has with
  | [v0], ⟨h0, _⟩ =>
    obtain ⟨o, rfl, _, hG0⟩ := ty_refn h0 rfl rfl
    replace hG0 : G o = 30 := hG0
    refine ⟨rfl, ?_⟩
    obtain ⟨fs0, g0, i15, i17, i19, i18, i21, i10, i8, i9, gc0, gp0⟩ := hP o rfl
    obtain ⟨⟨he0, he1⟩, hz0, hpl, -, -⟩ := id hok
    have hfw := pa_fw hok
    have hG_pc := pa_r15 hw g0 hG0 i15
    have hG_pp := pa_r17 hw g0 hG0 i17
    change ab_wp ro (ab_Ev ro ab_codes (d + 70)) 9 false none ab_k_X9_readOne (fun o_1 => ∃ v w1, o_1 = (v, w1, 0, 0) ∧ ty_w sp_ G w1 ∧ (F9 G F) w1 ∧ ty_same G fz w w1 ∧ ck_res G none v ∧ (paR pc pp fc fp tk e bd io fw lw (fun t => GK (decide (io.toInt ≠ 0)) (cd fc) e.toInt.toNat tk.toInt.toNat t.toInt.toNat)) ([.ref o] : List Value) w v w1) (0, [some (.ref o)], [], w, 0, 0)
    refine ax_go 1 (y := (1, [some (.ref o)], [.ref o], w, 0, 0)) rfl trivial ?_
    refine hx_gf (l := 4) rfl rfl rfl g0 i10 ?_
    refine hx_if_eq (l := 7) rfl rfl (fun h1 => ?_) (fun h1 => ?_)
    · -- 14
      refine ax_go 1 (y := (15, [some (.ref o)], [.ref o], w, 0, 0)) rfl trivial ?_
      refine hx_p0 (l := 18) (as := [.ref o]) rfl rfl (hx_iv (j := 157) (n := 0) (o := o) (r := []) rfl rfl g0 rfl) (hp_X9_readClause (fz := fz) hF (pc := pc) (pp := pp) (fc := fc) (fp := fp) (tk := tk) (e := e) (bd := bd) (io := io) (fw := fw) (lw := lw) hok ⟨by omega, by omega⟩ (by omega) (fun q hq => (by decide +kernel : ∀ q ∈ fb_hp_X9_readOne, q ∈ fb_hp_X9_readClause) q (hfz q hq)) (d + 0)) hw hf ⟨(hx_tr (G := G) (s := 30) (b := 0) hG0 (by decide)), trivial⟩ (fun o1 h1 => by cases h1; exact ⟨_, g0, i15, i17, i19, i18, i21, i10, i8, i9, gc0, gp0⟩) (fun w2 hw3 hf4 m5 u10 => ?_)
      have hs6 := ty_same_tr (ty_same_rf w) m5
      obtain ⟨tN23, bN24, ⟨fsN11, gA12, iA13, iB14, iC15, iD16, iE17, iF18, iG19, iH20, gC21, gP22⟩, ⟨ha25, hb26⟩, hN27⟩ := u10 _ rfl
      try dsimp only at hN27
      exact ax_ret rfl rfl trivial ⟨none, _, rfl, hw3, hf4, hs6, trivial, (fun o1 h1 => by cases h1; exact ⟨tN23, bN24, ⟨_, gA12, iA13, iB14, iC15, iD16, iE17, iF18, iG19, iH20, gC21, gP22⟩, ⟨by omega, by omega⟩, by (try dsimp only); exact hN27⟩)⟩
    · -- 7
      refine ax_go 1 (y := (8, [some (.ref o)], [.ref o], w, 0, 0)) rfl trivial ?_
      refine hx_p0 (l := 11) (as := [.ref o]) rfl rfl (hx_iv (j := 158) (n := 0) (o := o) (r := []) rfl rfl g0 rfl) (hp_X9_readOrder (fz := fz) hF (pc := pc) (pp := pp) (fc := fc) (fp := fp) (tk := tk) (e := e) (bd := bd) (io := io) (fw := fw) (lw := lw) hok ⟨by omega, by omega⟩ (by omega) (fun q hq => (by decide +kernel : ∀ q ∈ fb_hp_X9_readOne, q ∈ fb_hp_X9_readOrder) q (hfz q hq)) (d + 0)) hw hf ⟨(hx_tr (G := G) (s := 30) (b := 0) hG0 (by decide)), trivial⟩ (fun o1 h1 => by cases h1; exact ⟨_, g0, i15, i17, i19, i18, i21, i10, i8, i9, gc0, gp0⟩) (fun w28 hw29 hf30 m31 u36 => ?_)
      have hs32 := ty_same_tr (ty_same_rf w) m31
      obtain ⟨tN49, bN50, ⟨fsN37, gA38, iA39, iB40, iC41, iD42, iE43, iF44, iG45, iH46, gC47, gP48⟩, ⟨ha51, hb52⟩, hN53⟩ := u36 _ rfl
      try dsimp only at hN53
      refine ax_go 1 (y := (18, [some (.ref o)], [], w28, 0, 0)) rfl trivial ?_
      exact ax_ret rfl rfl trivial ⟨none, _, rfl, hw29, hf30, hs32, trivial, (fun o1 h1 => by cases h1; exact ⟨tN49, bN50, ⟨_, gA38, iA39, iB40, iC41, iD42, iE43, iF44, iG45, iH46, gC47, gP48⟩, ⟨by omega, by omega⟩, by (try dsimp only); exact hN53⟩)⟩
