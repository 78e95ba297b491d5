/-! walks by program: the reference's tape -/
def fb_ht_X9_end : List (Nat × Nat) := [(8, 3), (8, 5), (19, 999), (32, 999), (33, 999), (34, 999), (35, 999), (44, 999), (45, 999), (1, 0), (18, 999), (2, 11), (2, 14), (1, 15), (54, 11), (4, 2), (7, 9), (30, 34), (30, 2), (30, 22), (30, 23), (30, 24), (30, 25), (46, 999), (47, 999), (30, 35), (30, 36), (7, 0), (24, 999), (37, 999), (30, 4), (30, 5), (30, 6), (30, 8), (30, 9), (30, 10), (30, 11), (30, 14), (30, 15), (30, 16), (30, 17), (30, 18), (30, 19), (30, 20), (30, 21), (39, 999), (40, 999), (41, 999), (30, 30), (30, 42), (30, 43), (30, 44), (1, 1), (1, 3), (1, 10), (1, 13), (8, 0), (30, 49), (2, 15), (8, 1)]
set_option maxHeartbeats 8000000 in
theorem ht_X9_end {ro : ab_R} {G : Nat → Nat} {fz : List (Nat × Nat)} {F : ab_W → Prop} (hF : ∀ w w', smt G w w' → F w → F w') (hfz : ∀ q ∈ fz, q ∈ fb_ht_X9_end) (d : Nat) : hx_ct ro sp_ G (F9 G F) fz (ab_Ev ro ab_codes (d + 2)) 145 [(2, 30, 0), (0, (-2147483648), 2147483647)] (some (0, (-2147483648), 2147483647)) (fun _ _ => True) (fun as w v w1 => ∀ (o : Nat) (n : Int32) (b z : Int32), as = [.ref o, .int n] → v = some (.int z) → hx_has w o 9 13 (.int b) → ∃ b2 : Int32, hx_has w1 o 9 13 (.int b2) ∧ (((0 ≤ n.toInt ∧ n.toInt ≤ b.toInt) ∧ b2.toInt = n.toInt ∧ z.toInt = n.toInt) ∨ (¬ (0 ≤ n.toInt ∧ n.toInt ≤ b.toInt) ∧ b2.toInt = b.toInt ∧ z.toInt = -1))) := by
  have hFF := F9_same hF
  refine hx_hand (d := d + 1) (by decide) (fun as w hw hf has hP => ?_)
  match as, has with
  | [v0, v1], ⟨h0, h1, _⟩ =>
    obtain ⟨o, rfl, _, hG0⟩ := ty_refn h0 rfl rfl
    replace hG0 : G o = 30 := hG0
    obtain ⟨nn, rfl, hl1, hh1⟩ := ty_int h1 rfl
    replace hl1 : ((-2147483648) : Int) ≤ nn.toInt := hl1
    replace hh1 : nn.toInt ≤ 2147483647 := hh1
    refine ⟨rfl, ?_⟩
    obtain ⟨fs1, g2, -, q3⟩ := hx_obj hw hG0 (s := 30) rfl (by decide)
    obtain ⟨x4, e5, a6, b7⟩ := hx_fi (k := 13) (lo := 0) (hi := 400) q3 rfl
    change ab_wp ro (ab_Ev ro ab_codes (d + 1)) 9 false (some .int) ab_k_X9_end (fun o_1 => ∃ v w1, o_1 = (v, w1, 0, 0) ∧ ty_w sp_ G w1 ∧ (F9 G F) w1 ∧ ty_same G fz w w1 ∧ ck_res G (some (0, (-2147483648), 2147483647)) v ∧ (fun as w v w1 => ∀ (o : Nat) (n : Int32) (b z : Int32), as = [.ref o, .int n] → v = some (.int z) → hx_has w o 9 13 (.int b) → ∃ b2 : Int32, hx_has w1 o 9 13 (.int b2) ∧ (((0 ≤ n.toInt ∧ n.toInt ≤ b.toInt) ∧ b2.toInt = n.toInt ∧ z.toInt = n.toInt) ∨ (¬ (0 ≤ n.toInt ∧ n.toInt ≤ b.toInt) ∧ b2.toInt = b.toInt ∧ z.toInt = -1))) ([.ref o, .int nn] : List Value) w v w1) (0, [some (.ref o), some (.int nn)], [], w, 0, 0)
    refine ax_go 1 (y := (1, [some (.ref o), some (.int nn)], [.int nn], w, 0, 0)) rfl trivial ?_
    refine hx_k (l := 2) (m := 0) rfl rfl (by decide) (fun z8 h9 => ?_)
    refine ax_go 1 (y := (3, [some (.ref o), some (.int nn)], [.ref o, .int z8, .int nn], w, 0, 0)) rfl trivial ?_
    refine hx_gf (l := 6) rfl rfl rfl g2 e5 ?_
    refine hx_pi (l := 9) (as := [.int nn, .int z8, .int x4]) rfl rfl rfl (hp_X9_lies (fz := fz) hFF (fun q hq => (by decide +kernel : ∀ q ∈ fb_ht_X9_end, q ∈ fb_hp_X9_lies) q (hfz q hq)) (d + 0)) hw hf ⟨(ck_top_ok (G := G) nn), (ck_top_ok (G := G) z8), (ck_top_ok (G := G) x4), trivial⟩ trivial (fun w10 z15 hw11 hf12 m13 a16 b17 u18 => ?_)
    rw [u18.1]
    have u19 := u18.2 _ _ _ _ rfl rfl
    clear u18
    refine hx_if_ne (l := 12) rfl rfl (fun h20 => ?_) (fun h20 => ?_)
    · -- 14
      replace u19 := u19.1 (by omega)
      refine ax_go 2 (y := (16, [some (.ref o), some (.int nn)], [.int nn, .ref o], w, 0, 0)) rfl trivial ?_
      refine hx_pf (q := (0, 0, 0, 0, 0, 400)) (s := 30) (l := 19) (v := .int nn) rfl rfl rfl (by decide) rfl rfl rfl hw hG0 g2 trivial (hx_ti (G := G) (lo := 0) (hi := 400) (by omega) (by omega)) (fun w21 fs22 g23 e24 o25 n26 hw27 n28 => ?_)
      have hs29 := ty_same_tr (ty_same_rf w) (n28 fz (hx_ok hfz (by decide)))
      have hf30 := hFF _ _ (n28 pr_ (by decide)) hf
      refine ax_go 1 (y := (20, [some (.ref o), some (.int nn)], [.int nn], w21, 0, 0)) rfl trivial ?_
      exact ax_ret rfl rfl trivial ⟨some (.int nn), _, rfl, hw27, hf30, hs29, (ck_top_ok (G := G) nn), (fun o1 n0 b1 z1 h1 h2 h3 => by cases h1; cases h2; obtain ⟨fsA, gA, iA⟩ := h3; obtain rfl := hx_inj g2 gA; obtain rfl := hx_inji e5 iA; exact ⟨nn, ⟨_, g23, e24⟩, by omega⟩)⟩
    · -- 12
      replace u19 : ¬ (_ ∧ _) := fun hp => absurd (u19.2 hp) (by omega)
      refine hx_k (l := 13) (m := (-1)) rfl rfl (by decide) (fun z31 h32 => ?_)
      exact ax_ret rfl rfl trivial ⟨some (.int z31), _, rfl, hw, hf, (ty_same_rf w), (ck_top_ok (G := G) z31), (fun o1 n0 b1 z1 h1 h2 h3 => by cases h1; cases h2; obtain ⟨fsA, gA, iA⟩ := h3; obtain rfl := hx_inj g2 gA; obtain rfl := hx_inji e5 iA; exact ⟨x4, ⟨_, g2, e5⟩, by omega⟩)⟩
def fb_ht_X9_feed : List (Nat × Nat) := [(8, 3), (8, 5), (19, 999), (32, 999), (33, 999), (34, 999), (35, 999), (44, 999), (45, 999), (1, 0), (18, 999), (2, 11), (2, 14), (1, 15), (54, 11), (4, 2), (7, 9), (30, 34), (30, 2), (30, 22), (30, 23), (30, 24), (30, 25), (46, 999), (47, 999), (30, 35), (30, 36), (7, 0), (24, 999), (30, 4), (30, 5), (30, 6), (30, 8), (30, 9), (30, 10), (30, 11), (30, 14), (30, 15), (30, 16), (30, 17), (30, 18), (30, 19), (30, 20), (30, 21), (39, 999), (40, 999), (41, 999), (30, 30), (30, 42), (30, 43), (30, 44), (1, 1), (1, 3), (1, 10), (1, 13), (8, 0), (30, 49), (2, 15), (8, 1)]
set_option maxHeartbeats 8000000 in
theorem ht_X9_feed {ro : ab_R} {G : Nat → Nat} {fz : List (Nat × Nat)} {F : ab_W → Prop} (hF : ∀ w w', smt G w w' → F w → F w') (hfz : ∀ q ∈ fz, q ∈ fb_ht_X9_feed) (d : Nat) : hx_ct ro sp_ G (F9 G F) fz (ab_Ev ro ab_codes (d + 1)) 144 [(2, 30, 0), (0, (-2147483648), 2147483647), (0, (-2147483648), 2147483647), (0, (-2147483648), 2147483647), (0, (-2147483648), 2147483647), (0, (-2147483648), 2147483647)] (some (0, (-1), 400)) (fun _ _ => True) (fun as w v w1 => ∀ (o : Nat) (n1 n2 n3 n4 n5 : Int32) (b z : Int32), as = [.ref o, .int n1, .int n2, .int n3, .int n4, .int n5] → v = some (.int z) → hx_has w o 9 13 (.int b) → ∃ b2 : Int32, hx_has w1 o 9 13 (.int b2) ∧ ((b.toInt + 20 ≤ 400 ∧ b2.toInt = b.toInt + 20 ∧ z.toInt = b.toInt + 20) ∨ (¬ b.toInt + 20 ≤ 400 ∧ b2.toInt = b.toInt ∧ z.toInt = -1))) := by
  have hFF := F9_same hF
  refine hx_hand (d := d + 0) (by decide) (fun as w hw hf has hP => ?_)
  match as, has with
  | [v0, v1, v2, v3, v4, v5], ⟨h0, h1, h2, h3, h4, h5, _⟩ =>
    obtain ⟨o, rfl, _, hG0⟩ := ty_refn h0 rfl rfl
    replace hG0 : G o = 30 := hG0
    obtain ⟨a, rfl, hl1, hh1⟩ := ty_int h1 rfl
    replace hl1 : ((-2147483648) : Int) ≤ a.toInt := hl1
    replace hh1 : a.toInt ≤ 2147483647 := hh1
    obtain ⟨b, rfl, hl2, hh2⟩ := ty_int h2 rfl
    replace hl2 : ((-2147483648) : Int) ≤ b.toInt := hl2
    replace hh2 : b.toInt ≤ 2147483647 := hh2
    obtain ⟨c, rfl, hl3, hh3⟩ := ty_int h3 rfl
    replace hl3 : ((-2147483648) : Int) ≤ c.toInt := hl3
    replace hh3 : c.toInt ≤ 2147483647 := hh3
    obtain ⟨e1, rfl, hl4, hh4⟩ := ty_int h4 rfl
    replace hl4 : ((-2147483648) : Int) ≤ e1.toInt := hl4
    replace hh4 : e1.toInt ≤ 2147483647 := hh4
    obtain ⟨e2, rfl, hl5, hh5⟩ := ty_int h5 rfl
    replace hl5 : ((-2147483648) : Int) ≤ e2.toInt := hl5
    replace hh5 : e2.toInt ≤ 2147483647 := hh5
    refine ⟨rfl, ?_⟩
    obtain ⟨fs1, g2, -, q3⟩ := hx_obj hw hG0 (s := 30) rfl (by decide)
    obtain ⟨x4, e5, a6, b7⟩ := hx_fi (k := 13) (lo := 0) (hi := 400) q3 rfl
    have ct55 : ∀ (nq : Nat) (w8 : ab_W) (k : Int32) (tp : Int32), ty_w sp_ G w8 → (F9 G F) w8 → ty_same G fz w w8 → (hx_has w8 o 9 13 (.int tp)) → (0 ≤ k.toInt) → (k.toInt ≤ 20) → (tp.toInt ≤ 380) → (tp.toInt = x4.toInt) → (21 - k.toInt).toNat < nq → ab_wp ro (ab_Ev ro ab_codes d) 9 false (some .int) ab_k_X9_feed (fun o_1 => ∃ v w1, o_1 = (v, w1, 0, 0) ∧ ty_w sp_ G w1 ∧ (F9 G F) w1 ∧ ty_same G fz w w1 ∧ ck_res G (some (0, (-1), 400)) v ∧ (fun as w v w1 => ∀ (o : Nat) (n1 n2 n3 n4 n5 : Int32) (b z : Int32), as = [.ref o, .int n1, .int n2, .int n3, .int n4, .int n5] → v = some (.int z) → hx_has w o 9 13 (.int b) → ∃ b2 : Int32, hx_has w1 o 9 13 (.int b2) ∧ ((b.toInt + 20 ≤ 400 ∧ b2.toInt = b.toInt + 20 ∧ z.toInt = b.toInt + 20) ∨ (¬ b.toInt + 20 ≤ 400 ∧ b2.toInt = b.toInt ∧ z.toInt = -1))) ([.ref o, .int a, .int b, .int c, .int e1, .int e2] : List Value) w v w1) (55, [some (.ref o), some (.int a), some (.int b), some (.int c), some (.int e1), some (.int e2), some (.int k)], [], w8, 0, 0) := by
      intro nq
      induction nq with
      | zero => intro w8 k tp hw14 hf15 hs16 hh9 i10 i11 i12 i13 hm; exact absurd hm (Nat.not_lt_zero _)
      | succ nq ih55 =>
        intro w8 k tp hw14 hf15 hs16 hh9 i10 i11 i12 i13 hm55
        obtain ⟨fs17, g18, e19⟩ := hh9
        have q20 := hx_oq hw14 g18 hG0 (s := 30) rfl
        obtain ⟨x21, e22, a23, b24⟩ := hx_fi (k := 13) (lo := 0) (hi := 400) q20 rfl
        obtain rfl : tp = x21 := hx_inji e19 e22
        refine ax_go 1 (y := (57, [some (.ref o), some (.int a), some (.int b), some (.int c), some (.int e1), some (.int e2), some (.int k)], [.int k], w8, 0, 0)) rfl trivial ?_
        refine hx_k (l := 59) (m := 20) rfl rfl (by decide) (fun z25 h26 => ?_)
        refine hx_ic_ge (l := 62) rfl rfl (fun h27 => ?_) (fun h27 => ?_)
        · -- 101
          refine ax_go 2 (y := (103, [some (.ref o), some (.int a), some (.int b), some (.int c), some (.int e1), some (.int e2), some (.int k)], [.ref o, .ref o], w8, 0, 0)) rfl trivial ?_
          refine hx_gf (l := 106) rfl rfl rfl g18 e19 ?_
          refine hx_k (l := 108) (m := 20) rfl rfl (by decide) (fun z28 h29 => ?_)
          refine hx_add (l := 109) rfl rfl (fun z30 h31 => ?_)
          replace h31 := h31 (by omega) (by omega)
          refine hx_pf (q := (0, 0, 0, 0, 0, 400)) (s := 30) (l := 112) (v := .int z30) rfl rfl rfl (by decide) rfl rfl rfl hw14 hG0 g18 trivial (hx_ti (G := G) (lo := 0) (hi := 400) (by omega) (by omega)) (fun w32 fs33 g34 e35 o36 n37 hw38 n39 => ?_)
          have hs40 := ty_same_tr hs16 (n39 fz (hx_ok hfz (by decide)))
          have hf41 := hFF _ _ (n39 pr_ (by decide)) hf15
          refine ax_go 1 (y := (113, [some (.ref o), some (.int a), some (.int b), some (.int c), some (.int e1), some (.int e2), some (.int k)], [.ref o], w32, 0, 0)) rfl trivial ?_
          refine hx_gf (l := 116) rfl rfl rfl g34 e35 ?_
          exact ax_ret rfl rfl trivial ⟨some (.int z30), _, rfl, hw38, hf41, hs40, (hx_ti (G := G) (lo := (-1)) (hi := 400) (by omega) (by omega)), (fun o1 n0 n1 n2 n3 n4 b1 z1 h1 h2 h3 => by cases h1; cases h2; obtain ⟨fsA, gA, iA⟩ := h3; obtain rfl := hx_inj g2 gA; obtain rfl := hx_inji e5 iA; exact ⟨z30, ⟨_, g34, e35⟩, by omega⟩)⟩
        · -- 62
          refine ax_go 1 (y := (63, [some (.ref o), some (.int a), some (.int b), some (.int c), some (.int e1), some (.int e2), some (.int k)], [.ref o], w8, 0, 0)) rfl trivial ?_
          obtain ⟨p42, e43, hG44⟩ := hx_fr (k := 11) (s := 37) q20 rfl
          refine hx_gf (l := 66) rfl rfl rfl g18 e43 ?_
          refine ax_go 1 (y := (67, [some (.ref o), some (.int a), some (.int b), some (.int c), some (.int e1), some (.int e2), some (.int k)], [.ref o, .ref p42], w8, 0, 0)) rfl trivial ?_
          refine hx_gf (l := 70) rfl rfl rfl g18 e19 ?_
          refine ax_go 1 (y := (72, [some (.ref o), some (.int a), some (.int b), some (.int c), some (.int e1), some (.int e2), some (.int k)], [.int k, .int tp, .ref p42], w8, 0, 0)) rfl trivial ?_
          refine hx_add (l := 73) rfl rfl (fun z45 h46 => ?_)
          replace h46 := h46 (by omega) (by omega)
          refine ax_go 1 (y := (74, [some (.ref o), some (.int a), some (.int b), some (.int c), some (.int e1), some (.int e2), some (.int k)], [.ref o, .int z45, .ref p42], w8, 0, 0)) rfl trivial ?_
          obtain ⟨p47, e48, hG49⟩ := hx_fr (k := 12) (s := 38) q20 rfl
          refine hx_gf (l := 77) rfl rfl rfl g18 e48 ?_
          refine ax_go 1 (y := (79, [some (.ref o), some (.int a), some (.int b), some (.int c), some (.int e1), some (.int e2), some (.int k)], [.int k, .ref p47, .int z45, .ref p42], w8, 0, 0)) rfl trivial ?_
          refine hx_k (l := 80) (m := 4) rfl rfl (by decide) (fun z50 h51 => ?_)
          refine hx_div (l := 81) rfl rfl (by omega) (by omega) (fun z52 h53 => ?_)
          rw [h51] at h53
          obtain ⟨f54, g55, r56⟩ := hx_row hw14 hG49 (s := 38) (kd := 0) (n := 5) rfl (by decide)
          refine hx_il (l := 82) rfl rfl g55 (by omega) (by omega) (fun z57 h58 => ?_)
          refine hx_k (l := 84) (m := 24) rfl rfl (by decide) (fun z59 h60 => ?_)
          refine hx_k (l := 86) (m := 8) rfl rfl (by decide) (fun z61 h62 => ?_)
          refine ax_go 1 (y := (88, [some (.ref o), some (.int a), some (.int b), some (.int c), some (.int e1), some (.int e2), some (.int k)], [.int k, .int z61, .int z59, .int z57, .int z45, .ref p42], w8, 0, 0)) rfl trivial ?_
          refine hx_k (l := 89) (m := 4) rfl rfl (by decide) (fun z63 h64 => ?_)
          refine hx_rem (l := 90) rfl rfl (by omega) (by omega) (fun z65 a66 b67 c68 d69 => ?_)
          refine hx_mul (l := 91) rfl rfl (fun z70 h71 => ?_)
          rw [h62] at h71
          replace h71 := h71 (by omega) (by omega)
          refine hx_sub (l := 92) rfl rfl (fun z72 h73 => ?_)
          replace h73 := h73 (by omega) (by omega)
          refine hx_any (l := 93) rfl rfl (fun z74 => ?_)
          refine hx_any (l := 94) rfl rfl (fun z75 => ?_)
          obtain ⟨f76, g77, r78⟩ := hx_row hw14 hG44 (s := 37) (kd := 1) (n := 400) rfl (by decide)
          refine hx_bs (s := 37) (l := 95) rfl rfl (by decide) rfl hw14 hG44 g77 (by omega) (by omega) (fun w79 f80 g81 e82 o83 n84 hw85 n86 => ?_)
          have hs87 := ty_same_tr hs16 (n86 fz (hx_ok hfz (by decide)))
          have hf88 := hFF _ _ (n86 pr_ (by decide)) hf15
          refine hx_iinc (x := k) (n := 1) (l := 98) rfl rfl rfl (Nat.le_of_ble_eq_true rfl) (by omega) (by omega) (by decide) (fun z89 h90 => ?_)
          change ab_wp ro (ab_Ev ro ab_codes d) 9 false (some .int) ab_k_X9_feed (fun o_1 => ∃ v w1, o_1 = (v, w1, 0, 0) ∧ ty_w sp_ G w1 ∧ (F9 G F) w1 ∧ ty_same G fz w w1 ∧ ck_res G (some (0, (-1), 400)) v ∧ (fun as w v w1 => ∀ (o : Nat) (n1 n2 n3 n4 n5 : Int32) (b z : Int32), as = [.ref o, .int n1, .int n2, .int n3, .int n4, .int n5] → v = some (.int z) → hx_has w o 9 13 (.int b) → ∃ b2 : Int32, hx_has w1 o 9 13 (.int b2) ∧ ((b.toInt + 20 ≤ 400 ∧ b2.toInt = b.toInt + 20 ∧ z.toInt = b.toInt + 20) ∨ (¬ b.toInt + 20 ≤ 400 ∧ b2.toInt = b.toInt ∧ z.toInt = -1))) ([.ref o, .int a, .int b, .int c, .int e1, .int e2] : List Value) w v w1) (98, [some (.ref o), some (.int a), some (.int b), some (.int c), some (.int e1), some (.int e2), some (.int z89)], [], w79, 0, 0)
          refine ax_go 1 (y := (55, [some (.ref o), some (.int a), some (.int b), some (.int c), some (.int e1), some (.int e2), some (.int z89)], [], w79, 0, 0)) rfl trivial ?_
          exact ih55 w79 z89 tp hw85 hf88 hs87 ⟨_, ((n84 _ (hx_ne hG0 hG44 (by decide))).trans g18), e19⟩ (by omega) (by omega) (by omega) (by omega) (by omega)
    change ab_wp ro (ab_Ev ro ab_codes d) 9 false (some .int) ab_k_X9_feed (fun o_1 => ∃ v w1, o_1 = (v, w1, 0, 0) ∧ ty_w sp_ G w1 ∧ (F9 G F) w1 ∧ ty_same G fz w w1 ∧ ck_res G (some (0, (-1), 400)) v ∧ (fun as w v w1 => ∀ (o : Nat) (n1 n2 n3 n4 n5 : Int32) (b z : Int32), as = [.ref o, .int n1, .int n2, .int n3, .int n4, .int n5] → v = some (.int z) → hx_has w o 9 13 (.int b) → ∃ b2 : Int32, hx_has w1 o 9 13 (.int b2) ∧ ((b.toInt + 20 ≤ 400 ∧ b2.toInt = b.toInt + 20 ∧ z.toInt = b.toInt + 20) ∨ (¬ b.toInt + 20 ≤ 400 ∧ b2.toInt = b.toInt ∧ z.toInt = -1))) ([.ref o, .int a, .int b, .int c, .int e1, .int e2] : List Value) w v w1) (0, [some (.ref o), some (.int a), some (.int b), some (.int c), some (.int e1), some (.int e2), none], [], w, 0, 0)
    refine ax_go 1 (y := (1, [some (.ref o), some (.int a), some (.int b), some (.int c), some (.int e1), some (.int e2), none], [.ref o], w, 0, 0)) rfl trivial ?_
    refine hx_gf (l := 4) rfl rfl rfl g2 e5 ?_
    refine hx_k (l := 6) (m := 20) rfl rfl (by decide) (fun z91 h92 => ?_)
    refine hx_add (l := 7) rfl rfl (fun z93 h94 => ?_)
    replace h94 := h94 (by omega) (by omega)
    refine hx_k (l := 10) (m := 400) rfl rfl (by decide) (fun z95 h96 => ?_)
    refine hx_ic_le (l := 13) rfl rfl (fun h97 => ?_) (fun h97 => ?_)
    · -- 15
      refine ax_go 1 (y := (16, [some (.ref o), some (.int a), some (.int b), some (.int c), some (.int e1), some (.int e2), none], [.ref o], w, 0, 0)) rfl trivial ?_
      obtain ⟨p98, e99, hG100⟩ := hx_fr (k := 12) (s := 38) q3 rfl
      refine hx_gf (l := 19) rfl rfl rfl g2 e99 ?_
      refine hx_k (l := 20) (m := 0) rfl rfl (by decide) (fun z101 h102 => ?_)
      refine ax_go 1 (y := (21, [some (.ref o), some (.int a), some (.int b), some (.int c), some (.int e1), some (.int e2), none], [.int a, .int z101, .ref p98], w, 0, 0)) rfl trivial ?_
      obtain ⟨f103, g104, r105⟩ := hx_row hw hG100 (s := 38) (kd := 0) (n := 5) rfl (by decide)
      refine hx_is (s := 38) (l := 22) rfl rfl rfl hw hG100 g104 (by omega) (by omega) hx_sg0 (fun w106 f107 g108 e109 o110 n111 hw112 n113 => ?_)
      have hs114 := ty_same_tr (ty_same_rf w) (n113 fz (hx_ok hfz (by decide)))
      have hf115 := hFF _ _ (n113 pr_ (by decide)) hf
      refine ax_go 1 (y := (23, [some (.ref o), some (.int a), some (.int b), some (.int c), some (.int e1), some (.int e2), none], [.ref o], w106, 0, 0)) rfl trivial ?_
      refine hx_gf (l := 26) rfl rfl rfl ((n111 _ (hx_ne hG0 hG100 (by decide))).trans g2) e99 ?_
      refine hx_k (l := 27) (m := 1) rfl rfl (by decide) (fun z116 h117 => ?_)
      refine ax_go 1 (y := (28, [some (.ref o), some (.int a), some (.int b), some (.int c), some (.int e1), some (.int e2), none], [.int b, .int z116, .ref p98], w106, 0, 0)) rfl trivial ?_
      refine hx_is (s := 38) (l := 29) rfl rfl rfl hw112 hG100 g108 (by omega) (by omega) hx_sg0 (fun w118 f119 g120 e121 o122 n123 hw124 n125 => ?_)
      have hs126 := ty_same_tr hs114 (n125 fz (hx_ok hfz (by decide)))
      have hf127 := hFF _ _ (n125 pr_ (by decide)) hf115
      refine ax_go 1 (y := (30, [some (.ref o), some (.int a), some (.int b), some (.int c), some (.int e1), some (.int e2), none], [.ref o], w118, 0, 0)) rfl trivial ?_
      refine hx_gf (l := 33) rfl rfl rfl ((n123 _ (hx_ne hG0 hG100 (by decide))).trans ((n111 _ (hx_ne hG0 hG100 (by decide))).trans g2)) e99 ?_
      refine hx_k (l := 34) (m := 2) rfl rfl (by decide) (fun z128 h129 => ?_)
      refine ax_go 1 (y := (35, [some (.ref o), some (.int a), some (.int b), some (.int c), some (.int e1), some (.int e2), none], [.int c, .int z128, .ref p98], w118, 0, 0)) rfl trivial ?_
      refine hx_is (s := 38) (l := 36) rfl rfl rfl hw124 hG100 g120 (by omega) (by omega) hx_sg0 (fun w130 f131 g132 e133 o134 n135 hw136 n137 => ?_)
      have hs138 := ty_same_tr hs126 (n137 fz (hx_ok hfz (by decide)))
      have hf139 := hFF _ _ (n137 pr_ (by decide)) hf127
      refine ax_go 1 (y := (37, [some (.ref o), some (.int a), some (.int b), some (.int c), some (.int e1), some (.int e2), none], [.ref o], w130, 0, 0)) rfl trivial ?_
      refine hx_gf (l := 40) rfl rfl rfl ((n135 _ (hx_ne hG0 hG100 (by decide))).trans ((n123 _ (hx_ne hG0 hG100 (by decide))).trans ((n111 _ (hx_ne hG0 hG100 (by decide))).trans g2))) e99 ?_
      refine hx_k (l := 41) (m := 3) rfl rfl (by decide) (fun z140 h141 => ?_)
      refine ax_go 1 (y := (43, [some (.ref o), some (.int a), some (.int b), some (.int c), some (.int e1), some (.int e2), none], [.int e1, .int z140, .ref p98], w130, 0, 0)) rfl trivial ?_
      refine hx_is (s := 38) (l := 44) rfl rfl rfl hw136 hG100 g132 (by omega) (by omega) hx_sg0 (fun w142 f143 g144 e145 o146 n147 hw148 n149 => ?_)
      have hs150 := ty_same_tr hs138 (n149 fz (hx_ok hfz (by decide)))
      have hf151 := hFF _ _ (n149 pr_ (by decide)) hf139
      refine ax_go 1 (y := (45, [some (.ref o), some (.int a), some (.int b), some (.int c), some (.int e1), some (.int e2), none], [.ref o], w142, 0, 0)) rfl trivial ?_
      refine hx_gf (l := 48) rfl rfl rfl ((n147 _ (hx_ne hG0 hG100 (by decide))).trans ((n135 _ (hx_ne hG0 hG100 (by decide))).trans ((n123 _ (hx_ne hG0 hG100 (by decide))).trans ((n111 _ (hx_ne hG0 hG100 (by decide))).trans g2)))) e99 ?_
      refine hx_k (l := 49) (m := 4) rfl rfl (by decide) (fun z152 h153 => ?_)
      refine ax_go 1 (y := (51, [some (.ref o), some (.int a), some (.int b), some (.int c), some (.int e1), some (.int e2), none], [.int e2, .int z152, .ref p98], w142, 0, 0)) rfl trivial ?_
      refine hx_is (s := 38) (l := 52) rfl rfl rfl hw148 hG100 g144 (by omega) (by omega) hx_sg0 (fun w154 f155 g156 e157 o158 n159 hw160 n161 => ?_)
      have hs162 := ty_same_tr hs150 (n161 fz (hx_ok hfz (by decide)))
      have hf163 := hFF _ _ (n161 pr_ (by decide)) hf151
      refine hx_k (l := 53) (m := 0) rfl rfl (by decide) (fun z164 h165 => ?_)
      refine ax_go 1 (y := (55, [some (.ref o), some (.int a), some (.int b), some (.int c), some (.int e1), some (.int e2), some (.int z164)], [], w154, 0, 0)) rfl trivial ?_
      exact ct55 _ w154 z164 x4 hw160 hf163 hs162 ⟨_, ((n159 _ (hx_ne hG0 hG100 (by decide))).trans ((n147 _ (hx_ne hG0 hG100 (by decide))).trans ((n135 _ (hx_ne hG0 hG100 (by decide))).trans ((n123 _ (hx_ne hG0 hG100 (by decide))).trans ((n111 _ (hx_ne hG0 hG100 (by decide))).trans g2))))), e5⟩ (by omega) (by omega) (by omega) (by omega) (Nat.lt_succ_self _)
    · -- 13
      refine hx_k (l := 14) (m := (-1)) rfl rfl (by decide) (fun z166 h167 => ?_)
      exact ax_ret rfl rfl trivial ⟨some (.int z166), _, rfl, hw, hf, (ty_same_rf w), (hx_ti (G := G) (lo := (-1)) (hi := 400) (by omega) (by omega)), (fun o1 n0 n1 n2 n3 n4 b1 z1 h1 h2 h3 => by cases h1; cases h2; obtain ⟨fsA, gA, iA⟩ := h3; obtain rfl := hx_inj g2 gA; obtain rfl := hx_inji e5 iA; exact ⟨x4, ⟨_, g2, e5⟩, by omega⟩)⟩
def fb_ht_X9_row : List (Nat × Nat) := [(8, 3), (8, 5), (19, 999), (33, 999), (34, 999), (35, 999), (44, 999), (45, 999), (1, 0), (18, 999), (2, 11), (2, 14), (1, 15), (54, 11), (4, 2), (7, 9), (30, 2), (30, 22), (30, 23), (30, 24), (30, 25), (46, 999), (47, 999), (30, 35), (30, 36), (7, 0), (24, 999), (37, 999), (30, 4), (30, 5), (30, 8), (30, 9), (30, 10), (30, 11), (30, 14), (30, 15), (30, 16), (30, 17), (30, 18), (30, 19), (30, 20), (30, 21), (39, 999), (40, 999), (41, 999), (30, 30), (30, 42), (30, 43), (30, 44), (1, 1), (1, 3), (1, 10), (1, 13), (8, 0), (30, 49), (2, 15), (8, 1)]
set_option maxHeartbeats 8000000 in
theorem ht_X9_row {ro : ab_R} {G : Nat → Nat} {fz : List (Nat × Nat)} {F : ab_W → Prop} (hF : ∀ w w', smt G w w' → F w → F w') (hfz : ∀ q ∈ fz, q ∈ fb_ht_X9_row) (d : Nat) : hx_ct ro sp_ G (F9 G F) fz (ab_Ev ro ab_codes (d + 4)) 142 [(2, 30, 0)] (some (0, (-2147483648), 2147483647)) (fun _ _ => True) (fun as w v w1 => ∀ (o : Nat) (b z : Int32), as = [.ref o] → v = some (.int z) → hx_has w o 9 13 (.int b) → ∃ b2 : Int32, hx_has w1 o 9 13 (.int b2) ∧ (b2.toInt = 0)) := by
  have hFF := F9_same hF
  refine hx_hand (d := d + 3) (by decide) (fun as w hw hf has hP => ?_)
  match as, has with
  | [v0], ⟨h0, _⟩ =>
    obtain ⟨o, rfl, _, hG0⟩ := ty_refn h0 rfl rfl
    replace hG0 : G o = 30 := hG0
    refine ⟨rfl, ?_⟩
    obtain ⟨fs1, g2, -, q3⟩ := hx_obj hw hG0 (s := 30) rfl (by decide)
    obtain ⟨x4, e5, a6, b7⟩ := hx_fi (k := 13) (lo := 0) (hi := 400) q3 rfl
    have ct40 : ∀ (nq : Nat) (w8 : ab_W) (sz : Int32) (nn : Int32) (a1 : Int32) (u4 : Option Int32) (u5 : Option Int32) (u6 : Option Int32) (u7 : Option Int32) (tp : Int32), ty_w sp_ G w8 → (F9 G F) w8 → ty_same G fz w w8 → (hx_has w8 o 9 13 (.int tp)) → (tp.toInt = 0) → (0 ≤ sz.toInt) → (sz.toInt ≤ 400) → (0 ≤ a1.toInt) → (a1.toInt ≤ 402) → (403 - a1.toInt).toNat < nq → ab_wp ro (ab_Ev ro ab_codes (d + 3)) 9 false (some .int) ab_k_X9_row (fun o_1 => ∃ v w1, o_1 = (v, w1, 0, 0) ∧ ty_w sp_ G w1 ∧ (F9 G F) w1 ∧ ty_same G fz w w1 ∧ ck_res G (some (0, (-2147483648), 2147483647)) v ∧ (fun as w v w1 => ∀ (o : Nat) (b z : Int32), as = [.ref o] → v = some (.int z) → hx_has w o 9 13 (.int b) → ∃ b2 : Int32, hx_has w1 o 9 13 (.int b2) ∧ (b2.toInt = 0)) ([.ref o] : List Value) w v w1) (40, [some (.ref o), some (.int sz), some (.int nn), some (.int a1), (u4.map Value.int), (u5.map Value.int), (u6.map Value.int), (u7.map Value.int)], [], w8, 0, 0) := by
      intro nq
      induction nq with
      | zero => intro w8 sz nn a1 u4 u5 u6 u7 tp hw15 hf16 hs17 hh9 i10 i11 i12 i13 i14 hm; exact absurd hm (Nat.not_lt_zero _)
      | succ nq ih40 =>
        intro w8 sz nn a1 u4 u5 u6 u7 tp hw15 hf16 hs17 hh9 i10 i11 i12 i13 i14 hm40
        obtain ⟨fs18, g19, e20⟩ := hh9
        have q21 := hx_oq hw15 g19 hG0 (s := 30) rfl
        obtain ⟨x22, e23, a24, b25⟩ := hx_fi (k := 13) (lo := 0) (hi := 400) q21 rfl
        obtain rfl : tp = x22 := hx_inji e20 e23
        have ct164 : ∀ (w26 : ab_W) (sz2 : Int32) (nn2 : Int32) (a2 : Int32) (b2 : Int32) (t2 : Int32) (o2 : Int32) (is2 : Int32) (tp2 : Int32), ty_w sp_ G w26 → (F9 G F) w26 → ty_same G fz w w26 → (hx_has w26 o 9 13 (.int tp2)) → (tp2.toInt = 0) → (sz2.toInt = sz.toInt) → (a2.toInt = a1.toInt) → (a1.toInt + 3 ≤ sz.toInt) → ab_wp ro (ab_Ev ro ab_codes (d + 3)) 9 false (some .int) ab_k_X9_row (fun o_1 => ∃ v w1, o_1 = (v, w1, 0, 0) ∧ ty_w sp_ G w1 ∧ (F9 G F) w1 ∧ ty_same G fz w w1 ∧ ck_res G (some (0, (-2147483648), 2147483647)) v ∧ (fun as w v w1 => ∀ (o : Nat) (b z : Int32), as = [.ref o] → v = some (.int z) → hx_has w o 9 13 (.int b) → ∃ b2 : Int32, hx_has w1 o 9 13 (.int b2) ∧ (b2.toInt = 0)) ([.ref o] : List Value) w v w1) (164, [some (.ref o), some (.int sz2), some (.int nn2), some (.int a2), some (.int b2), some (.int t2), some (.int o2), some (.int is2)], [], w26, 0, 0) := by
          intro w26 sz2 nn2 a2 b2 t2 o2 is2 tp2 hw32 hf33 hs34 hh27 i28 i29 i30 i31
          obtain ⟨fs35, g36, e37⟩ := hh27
          have q38 := hx_oq hw32 g36 hG0 (s := 30) rfl
          obtain ⟨x39, e40, a41, b42⟩ := hx_fi (k := 13) (lo := 0) (hi := 400) q38 rfl
          obtain rfl : tp2 = x39 := hx_inji e37 e40
          refine ax_go 2 (y := (166, [some (.ref o), some (.int sz2), some (.int nn2), some (.int a2), some (.int b2), some (.int t2), some (.int o2), some (.int is2)], [.ref o, .ref o], w26, 0, 0)) rfl trivial ?_
          obtain ⟨x43, e44, a45, b46⟩ := hx_fi (k := 6) (lo := (-2147483648)) (hi := 2147483647) q38 rfl
          refine hx_gf (l := 169) rfl rfl rfl g36 e44 ?_
          refine ax_go 1 (y := (171, [some (.ref o), some (.int sz2), some (.int nn2), some (.int a2), some (.int b2), some (.int t2), some (.int o2), some (.int is2)], [.int is2, .int x43, .ref o], w26, 0, 0)) rfl trivial ?_
          refine hx_if_eq (l := 174) rfl rfl (fun h47 => ?_) (fun h47 => ?_)
          · -- 178
            refine hx_k (l := 179) (m := 1) rfl rfl (by decide) (fun z48 h49 => ?_)
            refine hx_add (l := 180) rfl rfl (fun z50 h51 => ?_)
            refine hx_pf (q := (0, 0, 0, 0, (-2147483648), 2147483647)) (s := 30) (l := 183) (v := .int z50) rfl rfl rfl (by decide) rfl rfl rfl hw32 hG0 g36 trivial (ck_top_ok (G := G) z50) (fun w52 fs53 g54 e55 o56 n57 hw58 n59 => ?_)
            have hs60 := ty_same_tr hs34 (n59 fz (hx_ok hfz (by decide)))
            have hf61 := hFF _ _ (n59 pr_ (by decide)) hf33
            refine hx_iinc (x := a2) (n := 3) (l := 186) rfl rfl rfl (Nat.le_of_ble_eq_true rfl) (by omega) (by omega) (by decide) (fun z62 h63 => ?_)
            change ab_wp ro (ab_Ev ro ab_codes (d + 3)) 9 false (some .int) ab_k_X9_row (fun o_1 => ∃ v w1, o_1 = (v, w1, 0, 0) ∧ ty_w sp_ G w1 ∧ (F9 G F) w1 ∧ ty_same G fz w w1 ∧ ck_res G (some (0, (-2147483648), 2147483647)) v ∧ (fun as w v w1 => ∀ (o : Nat) (b z : Int32), as = [.ref o] → v = some (.int z) → hx_has w o 9 13 (.int b) → ∃ b2 : Int32, hx_has w1 o 9 13 (.int b2) ∧ (b2.toInt = 0)) ([.ref o] : List Value) w v w1) (186, [some (.ref o), some (.int sz2), some (.int nn2), some (.int z62), some (.int b2), some (.int t2), some (.int o2), some (.int is2)], [], w52, 0, 0)
            refine ax_go 1 (y := (40, [some (.ref o), some (.int sz2), some (.int nn2), some (.int z62), some (.int b2), some (.int t2), some (.int o2), some (.int is2)], [], w52, 0, 0)) rfl trivial ?_
            exact ih40 w52 sz2 nn2 z62 (some b2) (some t2) (some o2) (some is2) tp2 hw58 hf61 hs60 ⟨_, g54, ((o56 13 (by decide)).trans e37)⟩ (by omega) (by omega) (by omega) (by omega) (by omega) (by omega)
          · -- 174
            refine hx_k (l := 175) (m := 0) rfl rfl (by decide) (fun z64 h65 => ?_)
            refine ax_go 1 (y := (179, [some (.ref o), some (.int sz2), some (.int nn2), some (.int a2), some (.int b2), some (.int t2), some (.int o2), some (.int is2)], [.int z64, .int x43, .ref o], w26, 0, 0)) rfl trivial ?_
            refine hx_add (l := 180) rfl rfl (fun z66 h67 => ?_)
            refine hx_pf (q := (0, 0, 0, 0, (-2147483648), 2147483647)) (s := 30) (l := 183) (v := .int z66) rfl rfl rfl (by decide) rfl rfl rfl hw32 hG0 g36 trivial (ck_top_ok (G := G) z66) (fun w68 fs69 g70 e71 o72 n73 hw74 n75 => ?_)
            have hs76 := ty_same_tr hs34 (n75 fz (hx_ok hfz (by decide)))
            have hf77 := hFF _ _ (n75 pr_ (by decide)) hf33
            refine hx_iinc (x := a2) (n := 3) (l := 186) rfl rfl rfl (Nat.le_of_ble_eq_true rfl) (by omega) (by omega) (by decide) (fun z78 h79 => ?_)
            change ab_wp ro (ab_Ev ro ab_codes (d + 3)) 9 false (some .int) ab_k_X9_row (fun o_1 => ∃ v w1, o_1 = (v, w1, 0, 0) ∧ ty_w sp_ G w1 ∧ (F9 G F) w1 ∧ ty_same G fz w w1 ∧ ck_res G (some (0, (-2147483648), 2147483647)) v ∧ (fun as w v w1 => ∀ (o : Nat) (b z : Int32), as = [.ref o] → v = some (.int z) → hx_has w o 9 13 (.int b) → ∃ b2 : Int32, hx_has w1 o 9 13 (.int b2) ∧ (b2.toInt = 0)) ([.ref o] : List Value) w v w1) (186, [some (.ref o), some (.int sz2), some (.int nn2), some (.int z78), some (.int b2), some (.int t2), some (.int o2), some (.int is2)], [], w68, 0, 0)
            refine ax_go 1 (y := (40, [some (.ref o), some (.int sz2), some (.int nn2), some (.int z78), some (.int b2), some (.int t2), some (.int o2), some (.int is2)], [], w68, 0, 0)) rfl trivial ?_
            exact ih40 w68 sz2 nn2 z78 (some b2) (some t2) (some o2) (some is2) tp2 hw74 hf77 hs76 ⟨_, g70, ((o72 13 (by decide)).trans e37)⟩ (by omega) (by omega) (by omega) (by omega) (by omega) (by omega)
        refine ax_go 1 (y := (41, [some (.ref o), some (.int sz), some (.int nn), some (.int a1), (u4.map Value.int), (u5.map Value.int), (u6.map Value.int), (u7.map Value.int)], [.int a1], w8, 0, 0)) rfl trivial ?_
        refine hx_k (l := 42) (m := 3) rfl rfl (by decide) (fun z80 h81 => ?_)
        refine hx_add (l := 43) rfl rfl (fun z82 h83 => ?_)
        replace h83 := h83 (by omega) (by omega)
        refine ax_go 1 (y := (44, [some (.ref o), some (.int sz), some (.int nn), some (.int a1), (u4.map Value.int), (u5.map Value.int), (u6.map Value.int), (u7.map Value.int)], [.int sz, .int z82], w8, 0, 0)) rfl trivial ?_
        refine hx_ic_gt (l := 47) rfl rfl (fun h84 => ?_) (fun h84 => ?_)
        · -- 189
          refine ax_go 2 (y := (191, [some (.ref o), some (.int sz), some (.int nn), some (.int a1), (u4.map Value.int), (u5.map Value.int), (u6.map Value.int), (u7.map Value.int)], [.int nn, .ref o], w8, 0, 0)) rfl trivial ?_
          refine hx_ci (l := 194) (as := [.ref o, .int nn]) rfl rfl (hx_iv (j := 126) (n := 1) (o := o) (r := []) rfl rfl g19 rfl) (h_X9_settled (fz := ([(30, 13)] ++ fz)) hF (hx_app (by decide +kernel) (fun q hq => (by decide +kernel : ∀ q ∈ fb_ht_X9_row, q ∈ fb_X9_settled) q (hfz q hq))) (d + 1)) hw15 hf16 ⟨(hx_tr (G := G) (s := 30) (b := 0) hG0 (by decide)), (ck_top_ok (G := G) nn), trivial⟩ (fun w85 z90 hw86 hf87 m88 a91 b92 u93 => ?_)
          have hs89 := ty_same_tr hs17 (hx_sapp m88)
          obtain ⟨fs94, g95, -, q96⟩ := hx_obj hw86 hG0 (s := 30) rfl (by decide)
          exact ax_ret rfl rfl trivial ⟨some (.int z90), _, rfl, hw86, hf87, hs89, (ck_top_ok (G := G) z90), (fun o1  b1 z1 h1 h2 h3 => by cases h1; cases h2; obtain ⟨fsA, gA, iA⟩ := h3; obtain rfl := hx_inj g2 gA; obtain rfl := hx_inji e5 iA; exact ⟨tp, ⟨_, g95, ((hx_kf m88 (hx_mem hG0 (by decide)) g19 g95).trans e20)⟩, by omega⟩)⟩
        · -- 47
          refine ax_go 1 (y := (48, [some (.ref o), some (.int sz), some (.int nn), some (.int a1), (u4.map Value.int), (u5.map Value.int), (u6.map Value.int), (u7.map Value.int)], [.ref o], w8, 0, 0)) rfl trivial ?_
          obtain ⟨p97, e98, hG99⟩ := hx_fr (k := 11) (s := 37) q21 rfl
          refine hx_gf (l := 51) rfl rfl rfl g19 e98 ?_
          refine ax_go 1 (y := (52, [some (.ref o), some (.int sz), some (.int nn), some (.int a1), (u4.map Value.int), (u5.map Value.int), (u6.map Value.int), (u7.map Value.int)], [.int a1, .ref p97], w8, 0, 0)) rfl trivial ?_
          obtain ⟨f100, g101, r102⟩ := hx_row hw15 hG99 (s := 37) (kd := 1) (n := 400) rfl (by decide)
          refine hx_bl (l := 53) rfl rfl g101 (by decide) (by omega) (by omega) (fun z103 h104 => ?_)
          refine hx_k (l := 56) (m := 255) rfl rfl (by decide) (fun z105 h106 => ?_)
          refine hx_and (l := 57) (m := 255) rfl rfl (by omega) (by decide) (fun z107 h108 h109 => ?_)
          refine hx_k (l := 58) (m := 1) rfl rfl (by decide) (fun z110 h111 => ?_)
          refine hx_sub (l := 59) rfl rfl (fun z112 h113 => ?_)
          replace h113 := h113 (by omega) (by omega)
          refine ax_go 2 (y := (62, [some (.ref o), some (.int sz), some (.int nn), some (.int a1), some (.int z112), (u5.map Value.int), (u6.map Value.int), (u7.map Value.int)], [.ref o], w8, 0, 0)) rfl trivial ?_
          refine hx_gf (l := 65) rfl rfl rfl g19 e98 ?_
          refine ax_go 1 (y := (66, [some (.ref o), some (.int sz), some (.int nn), some (.int a1), some (.int z112), (u5.map Value.int), (u6.map Value.int), (u7.map Value.int)], [.int a1, .ref p97], w8, 0, 0)) rfl trivial ?_
          refine hx_k (l := 67) (m := 1) rfl rfl (by decide) (fun z114 h115 => ?_)
          refine hx_add (l := 68) rfl rfl (fun z116 h117 => ?_)
          replace h117 := h117 (by omega) (by omega)
          refine hx_bl (l := 69) rfl rfl g101 (by decide) (by omega) (by omega) (fun z118 h119 => ?_)
          refine hx_k (l := 72) (m := 255) rfl rfl (by decide) (fun z120 h121 => ?_)
          refine hx_and (l := 73) (m := 255) rfl rfl (by omega) (by decide) (fun z122 h123 h124 => ?_)
          refine ax_go 2 (y := (76, [some (.ref o), some (.int sz), some (.int nn), some (.int a1), some (.int z112), some (.int z122), (u6.map Value.int), (u7.map Value.int)], [.ref o], w8, 0, 0)) rfl trivial ?_
          refine hx_gf (l := 79) rfl rfl rfl g19 e98 ?_
          refine ax_go 1 (y := (80, [some (.ref o), some (.int sz), some (.int nn), some (.int a1), some (.int z112), some (.int z122), (u6.map Value.int), (u7.map Value.int)], [.int a1, .ref p97], w8, 0, 0)) rfl trivial ?_
          refine hx_k (l := 81) (m := 2) rfl rfl (by decide) (fun z125 h126 => ?_)
          refine hx_add (l := 82) rfl rfl (fun z127 h128 => ?_)
          replace h128 := h128 (by omega) (by omega)
          refine hx_bl (l := 83) rfl rfl g101 (by decide) (by omega) (by omega) (fun z129 h130 => ?_)
          refine hx_k (l := 86) (m := 255) rfl rfl (by decide) (fun z131 h132 => ?_)
          refine hx_and (l := 87) (m := 255) rfl rfl (by omega) (by decide) (fun z133 h134 h135 => ?_)
          refine ax_go 2 (y := (90, [some (.ref o), some (.int sz), some (.int nn), some (.int a1), some (.int z112), some (.int z122), some (.int z133), (u7.map Value.int)], [.ref o], w8, 0, 0)) rfl trivial ?_
          obtain ⟨p136, e137, hG138⟩ := hx_fr (k := 2) (s := 32) q21 rfl
          refine hx_gf (l := 93) rfl rfl rfl g19 e137 ?_
          refine hx_k (l := 95) (m := 110) rfl rfl (by decide) (fun z139 h140 => ?_)
          obtain ⟨f141, g142, r143⟩ := hx_row hw15 hG138 (s := 32) (kd := 0) (n := 5721) rfl (by decide)
          refine hx_il (l := 96) rfl rfl g142 (by omega) (by omega) (fun z144 h145 => ?_)
          have b146 := ((hf16.1.1 _ _ hG138 g142).1 z139.toInt.toNat (by omega)).2.2.2.2.1 (by omega)
          rw [← h145] at b146
          rw [show z139.toInt.toNat = 110 by omega] at h145
          replace h145 := congrArg Int32.toInt h145
          refine hx_k (l := 98) (m := 10) rfl rfl (by decide) (fun z147 h148 => ?_)
          refine hx_ic_ge (l := 101) rfl rfl (fun h149 => ?_) (fun h149 => ?_)
          · -- 129
            refine hx_k (l := 130) (m := 0) rfl rfl (by decide) (fun z150 h151 => ?_)
            refine ax_go 2 (y := (134, [some (.ref o), some (.int sz), some (.int nn), some (.int a1), some (.int z112), some (.int z122), some (.int z133), some (.int z150)], [.int z150], w8, 0, 0)) rfl trivial ?_
            refine hx_if_eq (l := 137) rfl rfl (fun h152 => ?_) (fun h152 => by omega)
            refine ax_go 2 (y := (154, [some (.ref o), some (.int sz), some (.int nn), some (.int a1), some (.int z112), some (.int z122), some (.int z133), some (.int z150)], [.int z150, .int nn], w8, 0, 0)) rfl trivial ?_
            refine hx_if_eq (l := 157) rfl rfl (fun h153 => ?_) (fun h153 => by omega)
            refine hx_k (l := 162) (m := 0) rfl rfl (by decide) (fun z154 h155 => ?_)
            refine hx_add (l := 163) rfl rfl (fun z156 h157 => ?_)
            refine ax_go 1 (y := (164, [some (.ref o), some (.int sz), some (.int z156), some (.int a1), some (.int z112), some (.int z122), some (.int z133), some (.int z150)], [], w8, 0, 0)) rfl trivial ?_
            exact ct164 w8 sz z156 a1 z112 z122 z133 z150 tp hw15 hf16 hs17 ⟨_, g19, e20⟩ (by omega) (by omega) (by omega) (by omega)
          · -- 101
            refine ax_go 1 (y := (103, [some (.ref o), some (.int sz), some (.int nn), some (.int a1), some (.int z112), some (.int z122), some (.int z133), (u7.map Value.int)], [.int z133], w8, 0, 0)) rfl trivial ?_
            refine hx_k (l := 105) (m := 10) rfl rfl (by decide) (fun z158 h159 => ?_)
            refine hx_ic_ge (l := 108) rfl rfl (fun h160 => ?_) (fun h160 => ?_)
            · -- 129
              refine hx_k (l := 130) (m := 0) rfl rfl (by decide) (fun z161 h162 => ?_)
              refine ax_go 2 (y := (134, [some (.ref o), some (.int sz), some (.int nn), some (.int a1), some (.int z112), some (.int z122), some (.int z133), some (.int z161)], [.int z161], w8, 0, 0)) rfl trivial ?_
              refine hx_if_eq (l := 137) rfl rfl (fun h163 => ?_) (fun h163 => by omega)
              refine ax_go 2 (y := (154, [some (.ref o), some (.int sz), some (.int nn), some (.int a1), some (.int z112), some (.int z122), some (.int z133), some (.int z161)], [.int z161, .int nn], w8, 0, 0)) rfl trivial ?_
              refine hx_if_eq (l := 157) rfl rfl (fun h164 => ?_) (fun h164 => by omega)
              refine hx_k (l := 162) (m := 0) rfl rfl (by decide) (fun z165 h166 => ?_)
              refine hx_add (l := 163) rfl rfl (fun z167 h168 => ?_)
              refine ax_go 1 (y := (164, [some (.ref o), some (.int sz), some (.int z167), some (.int a1), some (.int z112), some (.int z122), some (.int z133), some (.int z161)], [], w8, 0, 0)) rfl trivial ?_
              exact ct164 w8 sz z167 a1 z112 z122 z133 z161 tp hw15 hf16 hs17 ⟨_, g19, e20⟩ (by omega) (by omega) (by omega) (by omega)
            · -- 108
              refine ax_go 2 (y := (111, [some (.ref o), some (.int sz), some (.int nn), some (.int a1), some (.int z112), some (.int z122), some (.int z133), (u7.map Value.int)], [.int z112, .ref o], w8, 0, 0)) rfl trivial ?_
              refine hx_k (l := 113) (m := 10) rfl rfl (by decide) (fun z169 h170 => ?_)
              refine ax_go 1 (y := (115, [some (.ref o), some (.int sz), some (.int nn), some (.int a1), some (.int z112), some (.int z122), some (.int z133), (u7.map Value.int)], [.int z122, .int z169, .int z112, .ref o], w8, 0, 0)) rfl trivial ?_
              refine hx_mul (l := 116) rfl rfl (fun z171 h172 => ?_)
              rw [h170] at h172
              replace h172 := h172 (by omega) (by omega)
              refine ax_go 1 (y := (118, [some (.ref o), some (.int sz), some (.int nn), some (.int a1), some (.int z112), some (.int z122), some (.int z133), (u7.map Value.int)], [.int z133, .int z171, .int z112, .ref o], w8, 0, 0)) rfl trivial ?_
              refine hx_add (l := 119) rfl rfl (fun z173 h174 => ?_)
              replace h174 := h174 (by omega) (by omega)
              refine hx_pi (l := 122) (as := [.ref o, .int z112, .int z173]) rfl rfl (hx_iv (j := 134) (n := 2) (o := o) (r := []) rfl rfl g19 rfl) (hp_X9_canParish (fz := fz) hF (fun q hq => (by decide +kernel : ∀ q ∈ fb_ht_X9_row, q ∈ fb_hp_X9_canParish) q (hfz q hq)) (d + 1)) hw15 hf16 ⟨(hx_tr (G := G) (s := 30) (b := 0) hG0 (by decide)), (ck_top_ok (G := G) z112), (ck_top_ok (G := G) z173), trivial⟩ trivial (fun w175 z180 hw176 hf177 m178 a181 b182 u183 => ?_)
              rw [u183.1]
              have u184 := u183.2 _ _ _ _ _ _ rfl ⟨_, g19, e137⟩ g142 rfl
              clear u183
              refine hx_if_eq (l := 125) rfl rfl (fun h185 => ?_) (fun h185 => ?_)
              · -- 129
                clear u184
                refine hx_k (l := 130) (m := 0) rfl rfl (by decide) (fun z186 h187 => ?_)
                refine ax_go 2 (y := (134, [some (.ref o), some (.int sz), some (.int nn), some (.int a1), some (.int z112), some (.int z122), some (.int z133), some (.int z186)], [.int z186], w8, 0, 0)) rfl trivial ?_
                refine hx_if_eq (l := 137) rfl rfl (fun h188 => ?_) (fun h188 => by omega)
                refine ax_go 2 (y := (154, [some (.ref o), some (.int sz), some (.int nn), some (.int a1), some (.int z112), some (.int z122), some (.int z133), some (.int z186)], [.int z186, .int nn], w8, 0, 0)) rfl trivial ?_
                refine hx_if_eq (l := 157) rfl rfl (fun h189 => ?_) (fun h189 => by omega)
                refine hx_k (l := 162) (m := 0) rfl rfl (by decide) (fun z190 h191 => ?_)
                refine hx_add (l := 163) rfl rfl (fun z192 h193 => ?_)
                refine ax_go 1 (y := (164, [some (.ref o), some (.int sz), some (.int z192), some (.int a1), some (.int z112), some (.int z122), some (.int z133), some (.int z186)], [], w8, 0, 0)) rfl trivial ?_
                exact ct164 w8 sz z192 a1 z112 z122 z133 z186 tp hw15 hf16 hs17 ⟨_, g19, e20⟩ (by omega) (by omega) (by omega) (by omega)
              · -- 125
                replace u184 := u184.1 (by omega)
                refine hx_k (l := 126) (m := 1) rfl rfl (by decide) (fun z194 h195 => ?_)
                refine ax_go 3 (y := (134, [some (.ref o), some (.int sz), some (.int nn), some (.int a1), some (.int z112), some (.int z122), some (.int z133), some (.int z194)], [.int z194], w8, 0, 0)) rfl trivial ?_
                refine hx_if_eq (l := 137) rfl rfl (fun h196 => by omega) (fun h196 => ?_)
                refine ax_go 2 (y := (140, [some (.ref o), some (.int sz), some (.int nn), some (.int a1), some (.int z112), some (.int z122), some (.int z133), some (.int z194)], [.int z112, .ref o], w8, 0, 0)) rfl trivial ?_
                refine hx_k (l := 142) (m := 10) rfl rfl (by decide) (fun z197 h198 => ?_)
                refine ax_go 1 (y := (144, [some (.ref o), some (.int sz), some (.int nn), some (.int a1), some (.int z112), some (.int z122), some (.int z133), some (.int z194)], [.int z122, .int z197, .int z112, .ref o], w8, 0, 0)) rfl trivial ?_
                refine hx_mul (l := 145) rfl rfl (fun z199 h200 => ?_)
                rw [h198] at h200
                replace h200 := h200 (by omega) (by omega)
                refine ax_go 1 (y := (147, [some (.ref o), some (.int sz), some (.int nn), some (.int a1), some (.int z112), some (.int z122), some (.int z133), some (.int z194)], [.int z133, .int z199, .int z112, .ref o], w8, 0, 0)) rfl trivial ?_
                refine hx_add (l := 148) rfl rfl (fun z201 h202 => ?_)
                replace h202 := h202 (by omega) (by omega)
                refine hx_p0 (l := 151) (as := [.ref o, .int z112, .int z201]) rfl rfl (hx_iv (j := 135) (n := 2) (o := o) (r := []) rfl rfl g19 rfl) (hp_X9_addsParish (fz := ([(30, 13)] ++ fz)) hF (hx_app (by decide +kernel) (fun q hq => (by decide +kernel : ∀ q ∈ fb_ht_X9_row, q ∈ fb_hp_X9_addsParish) q (hfz q hq))) (d + 2)) hw15 hf16 ⟨(hx_tr (G := G) (s := 30) (b := 0) hG0 (by decide)), (ck_top_ok (G := G) z112), (ck_top_ok (G := G) z201), trivial⟩ (fun y0 y1 y2 pk1 f1 h1 h2 h3 => by cases h1; obtain ⟨fs1, g1, e1⟩ := h2; obtain rfl := hx_inj g19 g1; cases e137.symm.trans e1; obtain rfl := hx_injr g142 h3; exact ⟨by omega, by omega, by omega, by omega, by omega⟩) (fun w203 hw204 hf205 m206 u211 => ?_)
                have hs207 := ty_same_tr hs17 (hx_sapp m206)
                obtain ⟨fs212, g213, -, q214⟩ := hx_obj hw204 hG0 (s := 30) rfl (by decide)
                refine ax_go 2 (y := (154, [some (.ref o), some (.int sz), some (.int nn), some (.int a1), some (.int z112), some (.int z122), some (.int z133), some (.int z194)], [.int z194, .int nn], w203, 0, 0)) rfl trivial ?_
                refine hx_if_eq (l := 157) rfl rfl (fun h215 => by omega) (fun h215 => ?_)
                refine hx_k (l := 158) (m := 1) rfl rfl (by decide) (fun z216 h217 => ?_)
                refine ax_go 1 (y := (162, [some (.ref o), some (.int sz), some (.int nn), some (.int a1), some (.int z112), some (.int z122), some (.int z133), some (.int z194)], [.int z216, .int nn], w203, 0, 0)) rfl trivial ?_
                refine hx_add (l := 163) rfl rfl (fun z218 h219 => ?_)
                refine ax_go 1 (y := (164, [some (.ref o), some (.int sz), some (.int z218), some (.int a1), some (.int z112), some (.int z122), some (.int z133), some (.int z194)], [], w203, 0, 0)) rfl trivial ?_
                exact ct164 w203 sz z218 a1 z112 z122 z133 z194 tp hw204 hf205 hs207 ⟨_, g213, ((hx_kf m206 (hx_mem hG0 (by decide)) g19 g213).trans e20)⟩ (by omega) (by omega) (by omega) (by omega)
    change ab_wp ro (ab_Ev ro ab_codes (d + 3)) 9 false (some .int) ab_k_X9_row (fun o_1 => ∃ v w1, o_1 = (v, w1, 0, 0) ∧ ty_w sp_ G w1 ∧ (F9 G F) w1 ∧ ty_same G fz w w1 ∧ ck_res G (some (0, (-2147483648), 2147483647)) v ∧ (fun as w v w1 => ∀ (o : Nat) (b z : Int32), as = [.ref o] → v = some (.int z) → hx_has w o 9 13 (.int b) → ∃ b2 : Int32, hx_has w1 o 9 13 (.int b2) ∧ (b2.toInt = 0)) ([.ref o] : List Value) w v w1) (0, [some (.ref o), none, none, none, none, none, none, none], [], w, 0, 0)
    refine ax_go 1 (y := (1, [some (.ref o), none, none, none, none, none, none, none], [.ref o], w, 0, 0)) rfl trivial ?_
    refine hx_gf (l := 4) rfl rfl rfl g2 e5 ?_
    refine ax_go 2 (y := (6, [some (.ref o), some (.int x4), none, none, none, none, none, none], [.ref o], w, 0, 0)) rfl trivial ?_
    refine hx_k (l := 7) (m := 0) rfl rfl (by decide) (fun z220 h221 => ?_)
    refine hx_pf (q := (0, 0, 0, 0, 0, 400)) (s := 30) (l := 10) (v := .int z220) rfl rfl rfl (by decide) rfl rfl rfl hw hG0 g2 trivial (hx_ti (G := G) (lo := 0) (hi := 400) (by omega) (by omega)) (fun w222 fs223 g224 e225 o226 n227 hw228 n229 => ?_)
    have hs230 := ty_same_tr (ty_same_rf w) (n229 fz (hx_ok hfz (by decide)))
    have hf231 := hFF _ _ (n229 pr_ (by decide)) hf
    refine ax_go 1 (y := (11, [some (.ref o), some (.int x4), none, none, none, none, none, none], [.int x4], w222, 0, 0)) rfl trivial ?_
    refine hx_if_ne (l := 14) rfl rfl (fun h232 => ?_) (fun h232 => ?_)
    · -- 21
      refine hx_k (l := 22) (m := 0) rfl rfl (by decide) (fun z233 h234 => ?_)
      refine ax_go 3 (y := (25, [some (.ref o), some (.int x4), some (.int z233), none, none, none, none, none], [.int x4, .ref o], w222, 0, 0)) rfl trivial ?_
      refine hx_k (l := 26) (m := 3) rfl rfl (by decide) (fun z235 h236 => ?_)
      refine hx_rem (l := 27) rfl rfl (by omega) (by omega) (fun z237 a238 b239 c240 d241 => ?_)
      refine hx_if_ne (l := 30) rfl rfl (fun h242 => ?_) (fun h242 => ?_)
      · -- 34
        refine hx_k (l := 35) (m := 1) rfl rfl (by decide) (fun z243 h244 => ?_)
        refine hx_pf (q := (0, 0, 0, 0, (-2147483648), 2147483647)) (s := 30) (l := 38) (v := .int z243) rfl rfl rfl (by decide) rfl rfl rfl hw228 hG0 g224 trivial (ck_top_ok (G := G) z243) (fun w245 fs246 g247 e248 o249 n250 hw251 n252 => ?_)
        have hs253 := ty_same_tr hs230 (n252 fz (hx_ok hfz (by decide)))
        have hf254 := hFF _ _ (n252 pr_ (by decide)) hf231
        refine hx_k (l := 39) (m := 0) rfl rfl (by decide) (fun z255 h256 => ?_)
        refine ax_go 1 (y := (40, [some (.ref o), some (.int x4), some (.int z233), some (.int z255), none, none, none, none], [], w245, 0, 0)) rfl trivial ?_
        exact ct40 _ w245 x4 z233 z255 none none none none z220 hw251 hf254 hs253 ⟨_, g247, ((o249 13 (by decide)).trans e225)⟩ (by omega) (by omega) (by omega) (by omega) (by omega) (Nat.lt_succ_self _)
      · -- 30
        refine hx_k (l := 31) (m := 0) rfl rfl (by decide) (fun z257 h258 => ?_)
        refine ax_go 1 (y := (35, [some (.ref o), some (.int x4), some (.int z233), none, none, none, none, none], [.int z257, .ref o], w222, 0, 0)) rfl trivial ?_
        refine hx_pf (q := (0, 0, 0, 0, (-2147483648), 2147483647)) (s := 30) (l := 38) (v := .int z257) rfl rfl rfl (by decide) rfl rfl rfl hw228 hG0 g224 trivial (ck_top_ok (G := G) z257) (fun w259 fs260 g261 e262 o263 n264 hw265 n266 => ?_)
        have hs267 := ty_same_tr hs230 (n266 fz (hx_ok hfz (by decide)))
        have hf268 := hFF _ _ (n266 pr_ (by decide)) hf231
        refine hx_k (l := 39) (m := 0) rfl rfl (by decide) (fun z269 h270 => ?_)
        refine ax_go 1 (y := (40, [some (.ref o), some (.int x4), some (.int z233), some (.int z269), none, none, none, none], [], w259, 0, 0)) rfl trivial ?_
        exact ct40 _ w259 x4 z233 z269 none none none none z220 hw265 hf268 hs267 ⟨_, g261, ((o263 13 (by decide)).trans e225)⟩ (by omega) (by omega) (by omega) (by omega) (by omega) (Nat.lt_succ_self _)
    · -- 14
      refine ax_go 1 (y := (15, [some (.ref o), some (.int x4), none, none, none, none, none, none], [.ref o], w222, 0, 0)) rfl trivial ?_
      refine hx_k (l := 17) (m := (-6)) rfl rfl (by decide) (fun z271 h272 => ?_)
      refine hx_ci (l := 20) (as := [.ref o, .int z271]) rfl rfl (hx_iv (j := 124) (n := 1) (o := o) (r := []) rfl rfl g224 rfl) (cc_X9_refuses_0 (fz := ([(30, 13)] ++ fz)) hFF  (hx_app (by decide +kernel) (fun q hq => (by decide +kernel : ∀ q ∈ fb_ht_X9_row, q ∈ fr_X9_refuses_0) q (hfz q hq))) (d + 2)) hw228 hf231 ⟨(hx_tr (G := G) (s := 30) (b := 0) hG0 (by decide)), (hx_ti (G := G) (lo := (-6)) (hi := (-1)) (by omega) (by omega)), trivial⟩ (fun w273 z278 hw274 hf275 m276 a279 b280 u281 => ?_)
      have hs277 := ty_same_tr hs230 (hx_sapp m276)
      obtain ⟨fs282, g283, -, q284⟩ := hx_obj hw274 hG0 (s := 30) rfl (by decide)
      exact ax_ret rfl rfl trivial ⟨some (.int z278), _, rfl, hw274, hf275, hs277, (ck_top_ok (G := G) z278), (fun o1  b1 z1 h1 h2 h3 => by cases h1; cases h2; obtain ⟨fsA, gA, iA⟩ := h3; obtain rfl := hx_inj g2 gA; obtain rfl := hx_inji e5 iA; exact ⟨z220, ⟨_, g283, ((hx_kf m276 (hx_mem hG0 (by decide)) g224 g283).trans e225)⟩, by omega⟩)⟩
def fb_ht_X9_reads : List (Nat × Nat) := [(8, 3), (8, 5), (19, 999), (32, 999), (33, 999), (34, 999), (35, 999), (44, 999), (45, 999), (1, 0), (18, 999), (2, 11), (2, 14), (1, 15), (54, 11), (4, 2), (7, 9), (30, 34), (30, 2), (30, 22), (30, 23), (30, 24), (30, 25), (46, 999), (47, 999), (30, 35), (30, 36), (7, 0), (24, 999), (37, 999), (30, 4), (30, 5), (30, 6), (30, 8), (30, 9), (30, 10), (30, 11), (30, 15), (30, 16), (30, 17), (30, 30), (30, 42), (30, 43), (30, 44), (1, 1), (1, 3), (1, 10), (1, 13), (8, 0), (30, 49), (2, 15), (8, 1)]
set_option maxHeartbeats 8000000 in
theorem ht_X9_reads {ro : ab_R} {G : Nat → Nat} {fz : List (Nat × Nat)} {F : ab_W → Prop} (hF : ∀ w w', smt G w w' → F w → F w') {io fw lw : Int32} (hio : (io.toInt = 0 → fw.toInt = 9 ∧ lw.toInt = 16) ∧ (io.toInt ≠ 0 → fw.toInt = 14 ∧ lw.toInt = 20)) (hfz : ∀ q ∈ fz, q ∈ fb_ht_X9_reads) (d : Nat) : hx_ct ro sp_ G (F9 G F) fz (ab_Ev ro ab_codes (d + 72)) 166 [(2, 30, 0)] (some (0, 0, 1)) (fun as w => ∀ o : Nat, as = [.ref o] → hx_has w o 9 10 (.int io) ∧ hx_has w o 9 8 (.int fw) ∧ hx_has w o 9 9 (.int lw)) (fun as w v w1 => (fun as _ v w1 => ∀ (o : Nat) (z : Int32), as = [.ref o] → v = some (.int z) → z.toInt ≠ 0 → rd_ok (decide (io.toInt ≠ 0)) o w1) as w v w1 ∧ (∀ o : Nat, as[0]? = some (.ref o) → ∃ b2 : Int32, hx_has w1 o 9 13 (.int b2) ∧ b2.toInt = 0)) := by
  have hFF := F9_same hF
  refine hx_hand (d := d + 71) (by decide) (fun as w hw hf has hP => ?_)
  match as, has with
  | [v0], ⟨h0, _⟩ =>
    obtain ⟨o, rfl, _, hG0⟩ := ty_refn h0 rfl rfl
    replace hG0 : G o = 30 := hG0
    refine ⟨rfl, ?_⟩
    obtain ⟨⟨fs0, g0, i10⟩, ⟨fs1, g1, i8⟩, ⟨fs2, g2, i9⟩⟩ := hP o rfl
    obtain rfl := hx_inj g0 g1
    obtain rfl := hx_inj g0 g2
    have ct34 : ∀ (nq : Nat) (w1 : ab_W) (nn : Int32) (tq : Int32) (bq : Int32) (e : Int32) (tp : Int32) (fc : Nat → Int32) (fp : Nat → Int32) (pc : Nat) (pp : Nat), ty_w sp_ G w1 → (F9 G F) w1 → ty_same G fz w w1 → (hx_has w1 o 9 19 (.int tq)) → (hx_has w1 o 9 21 (.int bq)) → (hx_has w1 o 9 15 (.ref pc)) → (hx_has w1 o 9 17 (.ref pp)) → (hx_has w1 o 9 18 (.int e)) → (hx_has w1 o 9 10 (.int io)) → (hx_has w1 o 9 8 (.int fw)) → (hx_has w1 o 9 9 (.int lw)) → (hx_has w1 o 9 13 (.int tp)) → (w1[pc]? = some (.inl (0, 401, .inl fc))) → (w1[pp]? = some (.inl (0, 401, .inl fp))) → (G pc = 39) → (G pp = 41) → (pa_ok fc fp e io fw lw) → (tp.toInt = 0) → (0 ≤ tq.toInt) → (tq.toInt ≤ e.toInt) → (e.toInt ≤ 400) → (1 ≤ nn.toInt) → (nn.toInt ≤ tq.toInt + 1) → (bq.toInt = -1 → GW (decide (io.toInt ≠ 0)) (cd fc) e.toInt.toNat (tq.toInt.toNat + 1) → GW (decide (io.toInt ≠ 0)) (cd fc) e.toInt.toNat 0) → (401 - tq.toInt).toNat < nq → ab_wp ro (ab_Ev ro ab_codes (d + 71)) 9 false (some .boolean) ab_k_X9_reads (fun o_1 => ∃ v w1, o_1 = (v, w1, 0, 0) ∧ ty_w sp_ G w1 ∧ (F9 G F) w1 ∧ ty_same G fz w w1 ∧ ck_res G (some (0, 0, 1)) v ∧ (fun as w v w1 => (fun as _ v w1 => ∀ (o : Nat) (z : Int32), as = [.ref o] → v = some (.int z) → z.toInt ≠ 0 → rd_ok (decide (io.toInt ≠ 0)) o w1) as w v w1 ∧ (∀ o : Nat, as[0]? = some (.ref o) → ∃ b2 : Int32, hx_has w1 o 9 13 (.int b2) ∧ b2.toInt = 0)) ([.ref o] : List Value) w v w1) (34, [some (.ref o), some (.int nn)], [], w1, 0, 0) := by
      intro nq
      induction nq with
      | zero => intro w1 nn tq bq e tp fc fp pc pp hw19 hf20 hs21 hh2 hh3 hh4 hh5 hh6 hh7 hh8 hh9 hh10 g11 g12 hG_pc hG_pp hok i13 i14 i15 i16 i17 i18 hgw hm; exact absurd hm (Nat.not_lt_zero _)
      | succ nq ih34 =>
        intro w1 nn tq bq e tp fc fp pc pp hw19 hf20 hs21 hh2 hh3 hh4 hh5 hh6 hh7 hh8 hh9 hh10 g11 g12 hG_pc hG_pp hok i13 i14 i15 i16 i17 i18 hgw hm34
        obtain ⟨fs22, g23, e24⟩ := hh2
        have q25 := hx_oq hw19 g23 hG0 (s := 30) rfl
        obtain ⟨x26, e27, a28, b29⟩ := hx_fi (k := 19) (lo := 0) (hi := 400) q25 rfl
        obtain rfl : tq = x26 := hx_inji e24 e27
        obtain ⟨fs30, g31, e32⟩ := hh3
        obtain rfl : fs22 = fs30 := hx_inj g23 g31
        obtain ⟨x33, e34, a35, b36⟩ := hx_fi (k := 21) (lo := (-2147483648)) (hi := 2147483647) q25 rfl
        obtain rfl : bq = x33 := hx_inji e32 e34
        obtain ⟨fs37, g38, e39⟩ := hh4
        obtain rfl : fs22 = fs37 := hx_inj g23 g38
        obtain ⟨fs40, g41, e42⟩ := hh5
        obtain rfl : fs22 = fs40 := hx_inj g23 g41
        obtain ⟨fs43, g44, e45⟩ := hh6
        obtain rfl : fs22 = fs43 := hx_inj g23 g44
        obtain ⟨x46, e47, a48, b49⟩ := hx_fi (k := 18) (lo := 0) (hi := 400) q25 rfl
        obtain rfl : e = x46 := hx_inji e45 e47
        obtain ⟨fs50, g51, e52⟩ := hh7
        obtain rfl : fs22 = fs50 := hx_inj g23 g51
        obtain ⟨fs53, g54, e55⟩ := hh8
        obtain rfl : fs22 = fs53 := hx_inj g23 g54
        obtain ⟨fs56, g57, e58⟩ := hh9
        obtain rfl : fs22 = fs56 := hx_inj g23 g57
        obtain ⟨fs59, g60, e61⟩ := hh10
        obtain rfl : fs22 = fs59 := hx_inj g23 g60
        obtain ⟨x62, e63, a64, b65⟩ := hx_fi (k := 13) (lo := 0) (hi := 400) q25 rfl
        obtain rfl : tp = x62 := hx_inji e61 e63
        refine ax_go 1 (y := (35, [some (.ref o), some (.int nn)], [.ref o], w1, 0, 0)) rfl trivial ?_
        refine hx_k (l := 37) (m := 59) rfl rfl (by decide) (fun z66 h67 => ?_)
        refine hx_pi (l := 40) (as := [.int z66]) rfl rfl rfl (hp_X9_sign (fz := fz) hF (fun q hq => (by decide +kernel : ∀ q ∈ fb_ht_X9_reads, q ∈ fb_hp_X9_sign) q (hfz q hq)) (d + 70)) hw19 hf20 ⟨(hx_ti (G := G) (lo := 0) (hi := 255) (by omega) (by omega)), trivial⟩ trivial (fun w68 z73 hw69 hf70 m71 a74 b75 u76 => ?_)
        rw [u76.1]
        have u77 := u76.2 _ _ rfl rfl
        refine hx_pi (l := 43) (as := [.ref o, .int z73]) rfl rfl (hx_iv (j := 152) (n := 1) (o := o) (r := []) rfl rfl g23 rfl) (hp_X9_takes0 (fz := ([(30, 13)] ++ fz)) hF (pc := pc) (pp := pp) (fc := fc) (fp := fp) (tk := tq) (e := e) (bd := bq) (io := io) (fw := fw) (lw := lw) hok ⟨by omega, by omega⟩ (hx_app (by decide +kernel) (fun q hq => (by decide +kernel : ∀ q ∈ fb_ht_X9_reads, q ∈ fb_hp_X9_takes0) q (hfz q hq))) (d + 69)) hw19 hf20 ⟨(hx_tr (G := G) (s := 30) (b := 0) hG0 (by decide)), (hx_ti (G := G) (lo := 1) (hi := 355) (by omega) (by omega)), trivial⟩ (fun o1 h1 => by cases h1; exact ⟨_, g23, e39, e42, e24, e45, e32, e52, e55, e58, g11, g12⟩) (fun w78 z83 hw79 hf80 m81 a84 b85 u86 => ?_)
        have hs82 := ty_same_tr hs21 (hx_sapp m81)
        obtain ⟨fs87, g88, -, q89⟩ := hx_obj hw79 hG0 (s := 30) rfl (by decide)
        rcases u86 _ _ _ rfl rfl with ⟨hz102, hb103, hg104, tN105, ⟨fsN90, gA91, iA92, iB93, iC94, iD95, iE96, iF97, iG98, iH99, gC100, gP101⟩, ht106, hu107⟩ | ⟨hz102, hg104, ⟨fsN90, gA91, iA92, iB93, iC94, iD95, iE96, iF97, iG98, iH99, gC100, gP101⟩⟩
        obtain rfl := hx_inj g88 gA91
        · -- taken 1
          refine hx_if_eq (l := 46) rfl rfl (fun h108 => by omega) (fun h108 => ?_)
          refine ax_go 1 (y := (47, [some (.ref o), some (.int nn)], [.int nn], w78, 0, 0)) rfl trivial ?_
          refine hx_k (l := 49) (m := 12) rfl rfl (by decide) (fun z109 h110 => ?_)
          refine hx_ic_ne (l := 52) rfl rfl (fun h111 => ?_) (fun h111 => ?_)
          · -- 56
            refine ax_go 1 (y := (57, [some (.ref o), some (.int nn)], [.ref o], w78, 0, 0)) rfl trivial ?_
            refine hx_pi (l := 60) (as := [.ref o]) rfl rfl (hx_iv (j := 150) (n := 0) (o := o) (r := []) rfl rfl gA91 rfl) (hp_X9_fine (fz := fz) hF (fun q hq => (by decide +kernel : ∀ q ∈ fb_ht_X9_reads, q ∈ fb_hp_X9_fine) q (hfz q hq)) (d + 70)) hw79 hf80 ⟨(hx_tr (G := G) (s := 30) (b := 0) hG0 (by decide)), trivial⟩ trivial (fun w112 z117 hw113 hf114 m115 a118 b119 u120 => ?_)
            rw [u120.1]
            have u121 := u120.2 _ _ _ rfl ⟨_, gA91, iE96⟩ rfl
            clear u120
            have hz122 : z117.toInt = 1 := by omega
            refine hx_if_eq (l := 63) rfl rfl (fun h123 => by omega) (fun h123 => ?_)
            refine ax_go 1 (y := (64, [some (.ref o), some (.int nn)], [.ref o], w78, 0, 0)) rfl trivial ?_
            refine hx_p0 (l := 67) (as := [.ref o]) rfl rfl (hx_iv (j := 159) (n := 0) (o := o) (r := []) rfl rfl gA91 rfl) (hp_X9_readOne (fz := ([(30, 13)] ++ fz)) hF (pc := pc) (pp := pp) (fc := fc) (fp := fp) (tk := tN105) (e := e) (bd := bq) (io := io) (fw := fw) (lw := lw) hok ⟨by omega, by omega⟩ (hx_app (by decide +kernel) (fun q hq => (by decide +kernel : ∀ q ∈ fb_ht_X9_reads, q ∈ fb_hp_X9_readOne) q (hfz q hq))) (d + 0)) hw79 hf80 ⟨(hx_tr (G := G) (s := 30) (b := 0) hG0 (by decide)), trivial⟩ (fun o1 h1 => by cases h1; exact ⟨_, gA91, iA92, iB93, iC94, iD95, iE96, iF97, iG98, iH99, gC100, gP101⟩) (fun w124 hw125 hf126 m127 u132 => ?_)
            have hs128 := ty_same_tr hs82 (hx_sapp m127)
            obtain ⟨fs133, g134, -, q135⟩ := hx_obj hw125 hG0 (s := 30) rfl (by decide)
            obtain ⟨tN148, bN149, ⟨fsN136, gA137, iA138, iB139, iC140, iD141, iE142, iF143, iG144, iH145, gC146, gP147⟩, ⟨ha150, hb151⟩, hN152⟩ := u132 _ rfl
            try dsimp only at hN152
            obtain rfl := hx_inj g134 gA137
            refine hx_iinc (x := nn) (n := 1) (l := 70) rfl rfl rfl (Nat.le_of_ble_eq_true rfl) (by omega) (by omega) (by decide) (fun z153 h154 => ?_)
            change ab_wp ro (ab_Ev ro ab_codes (d + 71)) 9 false (some .boolean) ab_k_X9_reads (fun o_1 => ∃ v w1, o_1 = (v, w1, 0, 0) ∧ ty_w sp_ G w1 ∧ (F9 G F) w1 ∧ ty_same G fz w w1 ∧ ck_res G (some (0, 0, 1)) v ∧ (fun as w v w1 => (fun as _ v w1 => ∀ (o : Nat) (z : Int32), as = [.ref o] → v = some (.int z) → z.toInt ≠ 0 → rd_ok (decide (io.toInt ≠ 0)) o w1) as w v w1 ∧ (∀ o : Nat, as[0]? = some (.ref o) → ∃ b2 : Int32, hx_has w1 o 9 13 (.int b2) ∧ b2.toInt = 0)) ([.ref o] : List Value) w v w1) (70, [some (.ref o), some (.int z153)], [], w124, 0, 0)
            refine ax_go 1 (y := (34, [some (.ref o), some (.int z153)], [], w124, 0, 0)) rfl trivial ?_
            exact ih34 w124 z153 tN148 bN149 e tp fc fp pc pp hw125 hf126 hs128 ⟨_, gA137, iC140⟩ ⟨_, gA137, iE142⟩ ⟨_, gA137, iA138⟩ ⟨_, gA137, iB139⟩ ⟨_, gA137, iD141⟩ ⟨_, gA137, iF143⟩ ⟨_, gA137, iG144⟩ ⟨_, gA137, iH145⟩ ⟨_, gA137, ((hx_kf m127 (hx_mem hG0 (by decide)) gA91 g134).trans ((hx_kf m81 (hx_mem hG0 (by decide)) g23 g88).trans e61))⟩ gC146 gP147 hG_pc hG_pp hok (by omega) (by omega) (by omega) (by omega) (by omega) (by omega) (fun hb hw0 => hgw (hN152 hb).1 (by rw [show tq.toInt.toNat + 1 = tN105.toInt.toNat by omega]; exact gw_cons (hN152 hb).2 hw0)) (by omega)
          · -- 52
            refine ax_go 1 (y := (53, [some (.ref o), some (.int nn)], [.ref o], w78, 0, 0)) rfl trivial ?_
            refine hx_p0 (l := 56) (as := [.ref o]) rfl rfl (hx_iv (j := 151) (n := 0) (o := o) (r := []) rfl rfl gA91 rfl) (hp_X9_faults (fz := ([(30, 13)] ++ fz)) hF (pc := pc) (pp := pp) (fc := fc) (fp := fp) (tk := tN105) (e := e) (bd := bq) (io := io) (fw := fw) (lw := lw) hok ⟨by omega, by omega⟩ (hx_app (by decide +kernel) (fun q hq => (by decide +kernel : ∀ q ∈ fb_ht_X9_reads, q ∈ fb_hp_X9_faults) q (hfz q hq))) (d + 69)) hw79 hf80 ⟨(hx_tr (G := G) (s := 30) (b := 0) hG0 (by decide)), trivial⟩ (fun o1 h1 => by cases h1; exact ⟨_, gA91, iA92, iB93, iC94, iD95, iE96, iF97, iG98, iH99, gC100, gP101⟩) (fun w155 hw156 hf157 m158 u163 => ?_)
            have hs159 := ty_same_tr hs82 (hx_sapp m158)
            obtain ⟨fs164, g165, -, q166⟩ := hx_obj hw156 hG0 (s := 30) rfl (by decide)
            obtain ⟨bN179, ⟨fsN167, gA168, iA169, iB170, iC171, iD172, iE173, iF174, iG175, iH176, gC177, gP178⟩, hN180⟩ := u163 _ rfl
            obtain rfl := hx_inj g165 gA168
            refine ax_go 1 (y := (57, [some (.ref o), some (.int nn)], [.ref o], w155, 0, 0)) rfl trivial ?_
            refine hx_pi (l := 60) (as := [.ref o]) rfl rfl (hx_iv (j := 150) (n := 0) (o := o) (r := []) rfl rfl gA168 rfl) (hp_X9_fine (fz := fz) hF (fun q hq => (by decide +kernel : ∀ q ∈ fb_ht_X9_reads, q ∈ fb_hp_X9_fine) q (hfz q hq)) (d + 70)) hw156 hf157 ⟨(hx_tr (G := G) (s := 30) (b := 0) hG0 (by decide)), trivial⟩ trivial (fun w181 z186 hw182 hf183 m184 a187 b188 u189 => ?_)
            rw [u189.1]
            have u190 := u189.2 _ _ _ rfl ⟨_, gA168, iE173⟩ rfl
            clear u189
            have hz191 : z186.toInt = 0 := by omega
            refine hx_if_eq (l := 63) rfl rfl (fun h192 => ?_) (fun h192 => by omega)
            refine hx_iinc (x := nn) (n := 1) (l := 70) rfl rfl rfl (Nat.le_of_ble_eq_true rfl) (by omega) (by omega) (by decide) (fun z193 h194 => ?_)
            change ab_wp ro (ab_Ev ro ab_codes (d + 71)) 9 false (some .boolean) ab_k_X9_reads (fun o_1 => ∃ v w1, o_1 = (v, w1, 0, 0) ∧ ty_w sp_ G w1 ∧ (F9 G F) w1 ∧ ty_same G fz w w1 ∧ ck_res G (some (0, 0, 1)) v ∧ (fun as w v w1 => (fun as _ v w1 => ∀ (o : Nat) (z : Int32), as = [.ref o] → v = some (.int z) → z.toInt ≠ 0 → rd_ok (decide (io.toInt ≠ 0)) o w1) as w v w1 ∧ (∀ o : Nat, as[0]? = some (.ref o) → ∃ b2 : Int32, hx_has w1 o 9 13 (.int b2) ∧ b2.toInt = 0)) ([.ref o] : List Value) w v w1) (70, [some (.ref o), some (.int z193)], [], w155, 0, 0)
            refine ax_go 1 (y := (34, [some (.ref o), some (.int z193)], [], w155, 0, 0)) rfl trivial ?_
            exact ih34 w155 z193 tN105 bN179 e tp fc fp pc pp hw156 hf157 hs159 ⟨_, gA168, iC171⟩ ⟨_, gA168, iE173⟩ ⟨_, gA168, iA169⟩ ⟨_, gA168, iB170⟩ ⟨_, gA168, iD172⟩ ⟨_, gA168, iF174⟩ ⟨_, gA168, iG175⟩ ⟨_, gA168, iH176⟩ ⟨_, gA168, ((hx_kf m158 (hx_mem hG0 (by decide)) gA91 g165).trans ((hx_kf m81 (hx_mem hG0 (by decide)) g23 g88).trans e61))⟩ gC177 gP178 hG_pc hG_pp hok (by omega) (by omega) (by omega) (by omega) (by omega) (by omega) (fun hb hw0 => absurd hb (by omega)) (by omega)
        obtain rfl := hx_inj g88 gA91
        · -- taken 0
          refine hx_if_eq (l := 46) rfl rfl (fun h195 => ?_) (fun h195 => by omega)
          refine ax_go 1 (y := (74, [some (.ref o), some (.int nn)], [.ref o], w78, 0, 0)) rfl trivial ?_
          refine hx_pi (l := 77) (as := [.ref o]) rfl rfl (hx_iv (j := 150) (n := 0) (o := o) (r := []) rfl rfl gA91 rfl) (hp_X9_fine (fz := fz) hF (fun q hq => (by decide +kernel : ∀ q ∈ fb_ht_X9_reads, q ∈ fb_hp_X9_fine) q (hfz q hq)) (d + 70)) hw79 hf80 ⟨(hx_tr (G := G) (s := 30) (b := 0) hG0 (by decide)), trivial⟩ trivial (fun w196 z201 hw197 hf198 m199 a202 b203 u204 => ?_)
          rw [u204.1]
          have u205 := u204.2 _ _ _ rfl ⟨_, gA91, iE96⟩ rfl
          clear u204
          rcases u205 with ⟨hz206, hb207⟩ | ⟨hz206, hb207⟩
          · -- fine 1
            refine hx_if_eq (l := 80) rfl rfl (fun h208 => by omega) (fun h208 => ?_)
            refine ax_go 1 (y := (81, [some (.ref o), some (.int nn)], [.ref o], w78, 0, 0)) rfl trivial ?_
            refine hx_gf (l := 84) rfl rfl rfl gA91 iC94 ?_
            refine ax_go 1 (y := (85, [some (.ref o), some (.int nn)], [.ref o, .int tq], w78, 0, 0)) rfl trivial ?_
            refine hx_gf (l := 88) rfl rfl rfl gA91 iD95 ?_
            refine hx_ic_ge (l := 91) rfl rfl (fun h209 => ?_) (fun h209 => ?_)
            · -- 95
              refine ax_go 2 (y := (97, [some (.ref o), some (.int nn)], [.ref o, .ref o], w78, 0, 0)) rfl trivial ?_
              refine hx_gf (l := 100) rfl rfl rfl gA91 iE96 ?_
              refine hx_pf (q := (0, 0, 0, 0, (-2147483648), 2147483647)) (s := 30) (l := 103) (v := .int bq) rfl rfl rfl (by decide) rfl rfl rfl hw79 hG0 gA91 trivial (ck_top_ok (G := G) bq) (fun w210 fs211 g212 e213 o214 n215 hw216 n217 => ?_)
              have hs218 := ty_same_tr hs82 (n217 fz (hx_ok hfz (by decide)))
              have hf219 := hFF _ _ (n217 pr_ (by decide)) hf80
              refine ax_go 1 (y := (104, [some (.ref o), some (.int nn)], [.ref o], w210, 0, 0)) rfl trivial ?_
              refine hx_pi (l := 107) (as := [.ref o]) rfl rfl (hx_iv (j := 150) (n := 0) (o := o) (r := []) rfl rfl g212 rfl) (hp_X9_fine (fz := fz) hF (fun q hq => (by decide +kernel : ∀ q ∈ fb_ht_X9_reads, q ∈ fb_hp_X9_fine) q (hfz q hq)) (d + 70)) hw216 hf219 ⟨(hx_tr (G := G) (s := 30) (b := 0) hG0 (by decide)), trivial⟩ trivial (fun w220 z225 hw221 hf222 m223 a226 b227 u228 => ?_)
              rw [u228.1]
              have u229 := u228.2 _ _ _ rfl ⟨_, g212, ((o214 21 (by decide)).trans iE96)⟩ rfl
              clear u228
              have hz230 : z225.toInt = 1 := by omega
              exact ax_ret rfl rfl ⟨hx_01 (by omega) (by omega), trivial⟩ ⟨some (.int z225), _, rfl, hw216, hf219, hs218, (hx_ti (G := G) (lo := 0) (hi := 1) (by omega) (by omega)), ⟨(fun o1 z1 h1 h2 hz => by cases h1; cases h2; exact ⟨pc, fc, e, ⟨_, g212, ((o214 15 (by decide)).trans iA92)⟩, ⟨_, g212, ((o214 18 (by decide)).trans iD95)⟩, ((n215 _ (hx_ne hG_pc hG0 (by decide))).trans gC100), ⟨hok.1.1, hok.1.2⟩, hgw (by omega) (gw_end (by omega))⟩), fun o1 h1 => by cases h1; exact ⟨tp, ⟨_, g212, ((o214 13 (by decide)).trans ((hx_kf m81 (hx_mem hG0 (by decide)) g23 g88).trans e61))⟩, by omega⟩⟩⟩
            · -- 91
              refine ax_go 1 (y := (92, [some (.ref o), some (.int nn)], [.ref o], w78, 0, 0)) rfl trivial ?_
              refine hx_p0 (l := 95) (as := [.ref o]) rfl rfl (hx_iv (j := 151) (n := 0) (o := o) (r := []) rfl rfl gA91 rfl) (hp_X9_faults (fz := ([(30, 13)] ++ fz)) hF (pc := pc) (pp := pp) (fc := fc) (fp := fp) (tk := tq) (e := e) (bd := bq) (io := io) (fw := fw) (lw := lw) hok ⟨by omega, by omega⟩ (hx_app (by decide +kernel) (fun q hq => (by decide +kernel : ∀ q ∈ fb_ht_X9_reads, q ∈ fb_hp_X9_faults) q (hfz q hq))) (d + 69)) hw79 hf80 ⟨(hx_tr (G := G) (s := 30) (b := 0) hG0 (by decide)), trivial⟩ (fun o1 h1 => by cases h1; exact ⟨_, gA91, iA92, iB93, iC94, iD95, iE96, iF97, iG98, iH99, gC100, gP101⟩) (fun w231 hw232 hf233 m234 u239 => ?_)
              have hs235 := ty_same_tr hs82 (hx_sapp m234)
              obtain ⟨fs240, g241, -, q242⟩ := hx_obj hw232 hG0 (s := 30) rfl (by decide)
              obtain ⟨bN255, ⟨fsN243, gA244, iA245, iB246, iC247, iD248, iE249, iF250, iG251, iH252, gC253, gP254⟩, hN256⟩ := u239 _ rfl
              obtain rfl := hx_inj g241 gA244
              refine ax_go 2 (y := (97, [some (.ref o), some (.int nn)], [.ref o, .ref o], w231, 0, 0)) rfl trivial ?_
              refine hx_gf (l := 100) rfl rfl rfl gA244 iE249 ?_
              refine hx_pf (q := (0, 0, 0, 0, (-2147483648), 2147483647)) (s := 30) (l := 103) (v := .int bN255) rfl rfl rfl (by decide) rfl rfl rfl hw232 hG0 gA244 trivial (ck_top_ok (G := G) bN255) (fun w257 fs258 g259 e260 o261 n262 hw263 n264 => ?_)
              have hs265 := ty_same_tr hs235 (n264 fz (hx_ok hfz (by decide)))
              have hf266 := hFF _ _ (n264 pr_ (by decide)) hf233
              refine ax_go 1 (y := (104, [some (.ref o), some (.int nn)], [.ref o], w257, 0, 0)) rfl trivial ?_
              refine hx_pi (l := 107) (as := [.ref o]) rfl rfl (hx_iv (j := 150) (n := 0) (o := o) (r := []) rfl rfl g259 rfl) (hp_X9_fine (fz := fz) hF (fun q hq => (by decide +kernel : ∀ q ∈ fb_ht_X9_reads, q ∈ fb_hp_X9_fine) q (hfz q hq)) (d + 70)) hw263 hf266 ⟨(hx_tr (G := G) (s := 30) (b := 0) hG0 (by decide)), trivial⟩ trivial (fun w267 z272 hw268 hf269 m270 a273 b274 u275 => ?_)
              rw [u275.1]
              have u276 := u275.2 _ _ _ rfl ⟨_, g259, ((o261 21 (by decide)).trans iE249)⟩ rfl
              clear u275
              have hz277 : z272.toInt = 0 := by omega
              exact ax_ret rfl rfl ⟨hx_01 (by omega) (by omega), trivial⟩ ⟨some (.int z272), _, rfl, hw263, hf266, hs265, (hx_ti (G := G) (lo := 0) (hi := 1) (by omega) (by omega)), ⟨(fun o1 z1 h1 h2 hz => by cases h1; cases h2; exact absurd hz (by omega)), fun o1 h1 => by cases h1; exact ⟨tp, ⟨_, g259, ((o261 13 (by decide)).trans ((hx_kf m234 (hx_mem hG0 (by decide)) gA91 g241).trans ((hx_kf m81 (hx_mem hG0 (by decide)) g23 g88).trans e61)))⟩, by omega⟩⟩⟩
          · -- fine 0
            refine hx_if_eq (l := 80) rfl rfl (fun h278 => ?_) (fun h278 => by omega)
            refine ax_go 2 (y := (97, [some (.ref o), some (.int nn)], [.ref o, .ref o], w78, 0, 0)) rfl trivial ?_
            refine hx_gf (l := 100) rfl rfl rfl gA91 iE96 ?_
            refine hx_pf (q := (0, 0, 0, 0, (-2147483648), 2147483647)) (s := 30) (l := 103) (v := .int bq) rfl rfl rfl (by decide) rfl rfl rfl hw79 hG0 gA91 trivial (ck_top_ok (G := G) bq) (fun w279 fs280 g281 e282 o283 n284 hw285 n286 => ?_)
            have hs287 := ty_same_tr hs82 (n286 fz (hx_ok hfz (by decide)))
            have hf288 := hFF _ _ (n286 pr_ (by decide)) hf80
            refine ax_go 1 (y := (104, [some (.ref o), some (.int nn)], [.ref o], w279, 0, 0)) rfl trivial ?_
            refine hx_pi (l := 107) (as := [.ref o]) rfl rfl (hx_iv (j := 150) (n := 0) (o := o) (r := []) rfl rfl g281 rfl) (hp_X9_fine (fz := fz) hF (fun q hq => (by decide +kernel : ∀ q ∈ fb_ht_X9_reads, q ∈ fb_hp_X9_fine) q (hfz q hq)) (d + 70)) hw285 hf288 ⟨(hx_tr (G := G) (s := 30) (b := 0) hG0 (by decide)), trivial⟩ trivial (fun w289 z294 hw290 hf291 m292 a295 b296 u297 => ?_)
            rw [u297.1]
            have u298 := u297.2 _ _ _ rfl ⟨_, g281, ((o283 21 (by decide)).trans iE96)⟩ rfl
            clear u297
            have hz299 : z294.toInt = 0 := by omega
            exact ax_ret rfl rfl ⟨hx_01 (by omega) (by omega), trivial⟩ ⟨some (.int z294), _, rfl, hw285, hf288, hs287, (hx_ti (G := G) (lo := 0) (hi := 1) (by omega) (by omega)), ⟨(fun o1 z1 h1 h2 hz => by cases h1; cases h2; exact absurd hz (by omega)), fun o1 h1 => by cases h1; exact ⟨tp, ⟨_, g281, ((o283 13 (by decide)).trans ((hx_kf m81 (hx_mem hG0 (by decide)) g23 g88).trans e61))⟩, by omega⟩⟩⟩
    change ab_wp ro (ab_Ev ro ab_codes (d + 71)) 9 false (some .boolean) ab_k_X9_reads (fun o_1 => ∃ v w1, o_1 = (v, w1, 0, 0) ∧ ty_w sp_ G w1 ∧ (F9 G F) w1 ∧ ty_same G fz w w1 ∧ ck_res G (some (0, 0, 1)) v ∧ (fun as w v w1 => (fun as _ v w1 => ∀ (o : Nat) (z : Int32), as = [.ref o] → v = some (.int z) → z.toInt ≠ 0 → rd_ok (decide (io.toInt ≠ 0)) o w1) as w v w1 ∧ (∀ o : Nat, as[0]? = some (.ref o) → ∃ b2 : Int32, hx_has w1 o 9 13 (.int b2) ∧ b2.toInt = 0)) ([.ref o] : List Value) w v w1) (0, [some (.ref o), none], [], w, 0, 0)
    refine ax_go 2 (y := (2, [some (.ref o), none], [.ref o, .ref o], w, 0, 0)) rfl trivial ?_
    have q300 := hx_oq hw g0 hG0 (s := 30) rfl
    obtain ⟨x301, e302, a303, b304⟩ := hx_fi (k := 13) (lo := 0) (hi := 400) q300 rfl
    refine hx_gf (l := 5) rfl rfl rfl g0 e302 ?_
    refine hx_p0 (l := 8) (as := [.ref o, .int x301]) rfl rfl (hx_iv (j := 149) (n := 1) (o := o) (r := []) rfl rfl g0 rfl) (hp_X9_splits (fz := ([(30, 10), (30, 8), (30, 9)] ++ fz)) hF (hx_app (by decide +kernel) (fun q hq => (by decide +kernel : ∀ q ∈ fb_ht_X9_reads, q ∈ fb_hp_X9_splits) q (hfz q hq))) (d + 69)) hw hf ⟨(hx_tr (G := G) (s := 30) (b := 0) hG0 (by decide)), (hx_ti (G := G) (lo := 0) (hi := 400) (by omega) (by omega)), trivial⟩ trivial (fun w305 hw306 hf307 m308 u313 => ?_)
    have hs309 := ty_same_tr (ty_same_rf w) (hx_sapp m308)
    obtain ⟨fs314, g315, -, q316⟩ := hx_obj hw306 hG0 (s := 30) rfl (by decide)
    obtain ⟨pc, pp, fc, fp, e, ⟨fsA317, gA318, iA319⟩, ⟨fsB320, gB321, iB322⟩, ⟨fsC323, gC324, iC325⟩, gc326, gp327, ⟨ha328, hb329⟩, hz330, hpl331⟩ := u313 _ rfl
    obtain rfl := hx_inj g315 gA318
    obtain rfl := hx_inj g315 gB321
    obtain rfl := hx_inj g315 gC324
    have hG_pc := pa_r15 hw306 g315 hG0 iA319
    have hG_pp := pa_r17 hw306 g315 hG0 iB322
    have hok : pa_ok fc fp e io fw lw := ⟨⟨ha328, hb329⟩, hz330, hpl331, hio.1, hio.2⟩
    refine ax_go 1 (y := (9, [some (.ref o), none], [.ref o], w305, 0, 0)) rfl trivial ?_
    refine hx_k (l := 10) (m := 0) rfl rfl (by decide) (fun z332 h333 => ?_)
    refine hx_pf (q := (0, 0, 0, 0, 0, 400)) (s := 30) (l := 13) (v := .int z332) rfl rfl rfl (by decide) rfl rfl rfl hw306 hG0 g315 trivial (hx_ti (G := G) (lo := 0) (hi := 400) (by omega) (by omega)) (fun w334 fs335 g336 e337 o338 n339 hw340 n341 => ?_)
    have hs342 := ty_same_tr hs309 (n341 fz (hx_ok hfz (by decide)))
    have hf343 := hFF _ _ (n341 pr_ (by decide)) hf307
    refine ax_go 1 (y := (14, [some (.ref o), none], [.ref o], w334, 0, 0)) rfl trivial ?_
    refine hx_k (l := 15) (m := 0) rfl rfl (by decide) (fun z344 h345 => ?_)
    refine hx_pf (q := (0, 0, 0, 0, 0, 400)) (s := 30) (l := 18) (v := .int z344) rfl rfl rfl (by decide) rfl rfl rfl hw340 hG0 g336 trivial (hx_ti (G := G) (lo := 0) (hi := 400) (by omega) (by omega)) (fun w346 fs347 g348 e349 o350 n351 hw352 n353 => ?_)
    have hs354 := ty_same_tr hs342 (n353 fz (hx_ok hfz (by decide)))
    have hf355 := hFF _ _ (n353 pr_ (by decide)) hf343
    refine ax_go 1 (y := (19, [some (.ref o), none], [.ref o], w346, 0, 0)) rfl trivial ?_
    refine hx_k (l := 20) (m := 0) rfl rfl (by decide) (fun z356 h357 => ?_)
    refine hx_pf (q := (0, 0, 0, 0, (-2147483648), 2147483647)) (s := 30) (l := 23) (v := .int z356) rfl rfl rfl (by decide) rfl rfl rfl hw352 hG0 g348 trivial (ck_top_ok (G := G) z356) (fun w358 fs359 g360 e361 o362 n363 hw364 n365 => ?_)
    have hs366 := ty_same_tr hs354 (n365 fz (hx_ok hfz (by decide)))
    have hf367 := hFF _ _ (n365 pr_ (by decide)) hf355
    refine ax_go 1 (y := (24, [some (.ref o), none], [.ref o], w358, 0, 0)) rfl trivial ?_
    refine hx_k (l := 25) (m := (-1)) rfl rfl (by decide) (fun z368 h369 => ?_)
    refine hx_pf (q := (0, 0, 0, 0, (-2147483648), 2147483647)) (s := 30) (l := 28) (v := .int z368) rfl rfl rfl (by decide) rfl rfl rfl hw364 hG0 g360 trivial (ck_top_ok (G := G) z368) (fun w370 fs371 g372 e373 o374 n375 hw376 n377 => ?_)
    have hs378 := ty_same_tr hs366 (n377 fz (hx_ok hfz (by decide)))
    have hf379 := hFF _ _ (n377 pr_ (by decide)) hf367
    refine ax_go 1 (y := (29, [some (.ref o), none], [.ref o], w370, 0, 0)) rfl trivial ?_
    refine hx_p0 (l := 32) (as := [.ref o]) rfl rfl (hx_iv (j := 159) (n := 0) (o := o) (r := []) rfl rfl g372 rfl) (hp_X9_readOne (fz := ([(30, 13)] ++ fz)) hF (pc := pc) (pp := pp) (fc := fc) (fp := fp) (tk := z344) (e := e) (bd := z368) (io := io) (fw := fw) (lw := lw) hok ⟨by omega, by omega⟩ (hx_app (by decide +kernel) (fun q hq => (by decide +kernel : ∀ q ∈ fb_ht_X9_reads, q ∈ fb_hp_X9_readOne) q (hfz q hq))) (d + 0)) hw376 hf379 ⟨(hx_tr (G := G) (s := 30) (b := 0) hG0 (by decide)), trivial⟩ (fun o1 h1 => by cases h1; exact ⟨_, g372, ((o374 15 (by decide)).trans ((o362 15 (by decide)).trans ((o350 15 (by decide)).trans ((o338 15 (by decide)).trans iA319)))), ((o374 17 (by decide)).trans ((o362 17 (by decide)).trans ((o350 17 (by decide)).trans ((o338 17 (by decide)).trans iB322)))), ((o374 19 (by decide)).trans ((o362 19 (by decide)).trans e349)), ((o374 18 (by decide)).trans ((o362 18 (by decide)).trans ((o350 18 (by decide)).trans ((o338 18 (by decide)).trans iC325)))), e373, ((o374 10 (by decide)).trans ((o362 10 (by decide)).trans ((o350 10 (by decide)).trans ((o338 10 (by decide)).trans ((hx_kf m308 (hx_mem hG0 (by decide)) g0 g315).trans i10))))), ((o374 8 (by decide)).trans ((o362 8 (by decide)).trans ((o350 8 (by decide)).trans ((o338 8 (by decide)).trans ((hx_kf m308 (hx_mem hG0 (by decide)) g0 g315).trans i8))))), ((o374 9 (by decide)).trans ((o362 9 (by decide)).trans ((o350 9 (by decide)).trans ((o338 9 (by decide)).trans ((hx_kf m308 (hx_mem hG0 (by decide)) g0 g315).trans i9))))), ((n375 _ (hx_ne hG_pc hG0 (by decide))).trans ((n363 _ (hx_ne hG_pc hG0 (by decide))).trans ((n351 _ (hx_ne hG_pc hG0 (by decide))).trans ((n339 _ (hx_ne hG_pc hG0 (by decide))).trans gc326)))), ((n375 _ (hx_ne hG_pp hG0 (by decide))).trans ((n363 _ (hx_ne hG_pp hG0 (by decide))).trans ((n351 _ (hx_ne hG_pp hG0 (by decide))).trans ((n339 _ (hx_ne hG_pp hG0 (by decide))).trans gp327))))⟩) (fun w380 hw381 hf382 m383 u388 => ?_)
    have hs384 := ty_same_tr hs378 (hx_sapp m383)
    obtain ⟨fs389, g390, -, q391⟩ := hx_obj hw381 hG0 (s := 30) rfl (by decide)
    obtain ⟨tN404, bN405, ⟨fsN392, gA393, iA394, iB395, iC396, iD397, iE398, iF399, iG400, iH401, gC402, gP403⟩, ⟨ha406, hb407⟩, hN408⟩ := u388 _ rfl
    try dsimp only at hN408
    obtain rfl := hx_inj g390 gA393
    refine hx_k (l := 33) (m := 1) rfl rfl (by decide) (fun z409 h410 => ?_)
    refine ax_go 1 (y := (34, [some (.ref o), some (.int z409)], [], w380, 0, 0)) rfl trivial ?_
    exact ct34 _ w380 z409 tN404 bN405 e z332 fc fp pc pp hw381 hf382 hs384 ⟨_, gA393, iC396⟩ ⟨_, gA393, iE398⟩ ⟨_, gA393, iA394⟩ ⟨_, gA393, iB395⟩ ⟨_, gA393, iD397⟩ ⟨_, gA393, iF399⟩ ⟨_, gA393, iG400⟩ ⟨_, gA393, iH401⟩ ⟨_, gA393, ((hx_kf m383 (hx_mem hG0 (by decide)) g372 g390).trans ((o374 13 (by decide)).trans ((o362 13 (by decide)).trans ((o350 13 (by decide)).trans e337))))⟩ gC402 gP403 hG_pc hG_pp hok (by omega) (by omega) (by omega) (by omega) (by omega) (by omega) (fun hb hw0 => by have y := gw_cons (hN408 hb).2 hw0; rw [show z344.toInt.toNat = 0 by omega] at y; exact y) (Nat.lt_succ_self _)
def fb_ht_X9_readsAs : List (Nat × Nat) := [(8, 3), (8, 5), (19, 999), (32, 999), (33, 999), (34, 999), (35, 999), (44, 999), (45, 999), (1, 0), (18, 999), (2, 11), (2, 14), (1, 15), (54, 11), (4, 2), (7, 9), (30, 34), (30, 2), (30, 22), (30, 23), (30, 24), (30, 25), (46, 999), (47, 999), (30, 35), (30, 36), (7, 0), (24, 999), (37, 999), (30, 4), (30, 5), (30, 6), (30, 11), (30, 15), (30, 16), (30, 17), (30, 30), (30, 42), (30, 43), (30, 44), (1, 1), (1, 3), (1, 10), (1, 13), (8, 0), (30, 49), (2, 15), (8, 1)]
set_option maxHeartbeats 8000000 in
theorem ht_X9_readsAs {ro : ab_R} {G : Nat → Nat} {fz : List (Nat × Nat)} {F : ab_W → Prop} (hF : ∀ w w', smt G w w' → F w → F w') (hfz : ∀ q ∈ fz, q ∈ fb_ht_X9_readsAs) (d : Nat) : hx_ct ro sp_ G (F9 G F) fz (ab_Ev ro ab_codes (d + 73)) 167 [(2, 30, 0), (0, 0, 1)] (some (0, 0, 1)) (fun _ _ => True) (fun as w v w1 => (fun as _ v w1 => ∀ (o : Nat) (b z : Int32), as = [.ref o, .int b] → v = some (.int z) → z.toInt ≠ 0 → rd_ok (decide (b.toInt ≠ 0)) o w1) as w v w1 ∧ (∀ o : Nat, as[0]? = some (.ref o) → ∃ b2 : Int32, hx_has w1 o 9 13 (.int b2) ∧ b2.toInt = 0)) := by
  have hFF := F9_same hF
  refine hx_hand (d := d + 72) (by decide) (fun as w hw hf has hP => ?_)
  match as, has with
  | [v0, v1], ⟨h0, h1, _⟩ =>
    obtain ⟨o, rfl, _, hG0⟩ := ty_refn h0 rfl rfl
    replace hG0 : G o = 30 := hG0
    obtain ⟨or, rfl, hl1, hh1⟩ := ty_int h1 rfl
    replace hl1 : (0 : Int) ≤ or.toInt := hl1
    replace hh1 : or.toInt ≤ 1 := hh1
    refine ⟨rfl, ?_⟩
    change ab_wp ro (ab_Ev ro ab_codes (d + 72)) 9 false (some .boolean) ab_k_X9_readsAs (fun o_1 => ∃ v w1, o_1 = (v, w1, 0, 0) ∧ ty_w sp_ G w1 ∧ (F9 G F) w1 ∧ ty_same G fz w w1 ∧ ck_res G (some (0, 0, 1)) v ∧ (fun as w v w1 => (fun as _ v w1 => ∀ (o : Nat) (b z : Int32), as = [.ref o, .int b] → v = some (.int z) → z.toInt ≠ 0 → rd_ok (decide (b.toInt ≠ 0)) o w1) as w v w1 ∧ (∀ o : Nat, as[0]? = some (.ref o) → ∃ b2 : Int32, hx_has w1 o 9 13 (.int b2) ∧ b2.toInt = 0)) ([.ref o, .int or] : List Value) w v w1) (0, [some (.ref o), some (.int or)], [], w, 0, 0)
    refine ax_go 2 (y := (2, [some (.ref o), some (.int or)], [.int or, .ref o], w, 0, 0)) rfl trivial ?_
    obtain ⟨fs1, g2, -, q3⟩ := hx_obj hw hG0 (s := 30) rfl (by decide)
    refine hx_pf (q := (0, 0, 0, 0, 0, 1)) (s := 30) (l := 5) (v := .int or) rfl rfl rfl (by decide) rfl rfl rfl hw hG0 g2 ⟨hx_01 (by omega) (by omega), trivial⟩ (hx_ti (G := G) (lo := 0) (hi := 1) (by omega) (by omega)) (fun w4 fs5 g6 e7 o8 n9 hw10 n11 => ?_)
    have hs12 := ty_same_tr (ty_same_rf w) (n11 fz (hx_ok hfz (by decide)))
    have hf13 := hFF _ _ (n11 pr_ (by decide)) hf
    refine ax_go 2 (y := (7, [some (.ref o), some (.int or)], [.int or, .ref o], w4, 0, 0)) rfl trivial ?_
    refine hx_if_eq (l := 10) rfl rfl (fun h14 => ?_) (fun h14 => ?_)
    · -- 15
      refine hx_k (l := 17) (m := 9) rfl rfl (by decide) (fun z15 h16 => ?_)
      refine hx_pf (q := (0, 0, 0, 0, (-2147483648), 2147483647)) (s := 30) (l := 20) (v := .int z15) rfl rfl rfl (by decide) rfl rfl rfl hw10 hG0 g6 trivial (ck_top_ok (G := G) z15) (fun w17 fs18 g19 e20 o21 n22 hw23 n24 => ?_)
      have hs25 := ty_same_tr hs12 (n24 fz (hx_ok hfz (by decide)))
      have hf26 := hFF _ _ (n24 pr_ (by decide)) hf13
      refine ax_go 2 (y := (22, [some (.ref o), some (.int or)], [.int or, .ref o], w17, 0, 0)) rfl trivial ?_
      refine hx_if_eq (l := 25) rfl rfl (fun h27 => ?_) (fun h27 => ?_)
      · -- 30
        refine hx_k (l := 32) (m := 16) rfl rfl (by decide) (fun z28 h29 => ?_)
        refine hx_pf (q := (0, 0, 0, 0, (-2147483648), 2147483647)) (s := 30) (l := 35) (v := .int z28) rfl rfl rfl (by decide) rfl rfl rfl hw23 hG0 g19 trivial (ck_top_ok (G := G) z28) (fun w30 fs31 g32 e33 o34 n35 hw36 n37 => ?_)
        have hs38 := ty_same_tr hs25 (n37 fz (hx_ok hfz (by decide)))
        have hf39 := hFF _ _ (n37 pr_ (by decide)) hf26
        refine ax_go 1 (y := (36, [some (.ref o), some (.int or)], [.ref o], w30, 0, 0)) rfl trivial ?_
        refine hx_pi (l := 39) (as := [.ref o]) rfl rfl (hx_iv (j := 166) (n := 0) (o := o) (r := []) rfl rfl g32 rfl) (ht_X9_reads (fz := fz) hF (io := or) (fw := z15) (lw := z28) ⟨fun _ => ⟨by omega, by omega⟩, fun _ => ⟨by omega, by omega⟩⟩ (fun q hq => (by decide +kernel : ∀ q ∈ fb_ht_X9_readsAs, q ∈ fb_ht_X9_reads) q (hfz q hq)) (d + 0)) hw36 hf39 ⟨(hx_tr (G := G) (s := 30) (b := 0) hG0 (by decide)), trivial⟩ (fun o1 h1 => by cases h1; exact ⟨⟨_, g32, ((o34 10 (by decide)).trans ((o21 10 (by decide)).trans e7))⟩, ⟨_, g32, ((o34 8 (by decide)).trans e20)⟩, ⟨_, g32, e33⟩⟩) (fun w40 z45 hw41 hf42 m43 a46 b47 u48 => ?_)
        have hs44 := ty_same_tr hs38 m43
        exact ax_ret rfl rfl ⟨hx_01 (by omega) (by omega), trivial⟩ ⟨some (.int z45), _, rfl, hw41, hf42, hs44, (hx_ti (G := G) (lo := 0) (hi := 1) (by omega) (by omega)), ⟨fun o1 b1 z1 h1 h2 hz => by cases h1; cases h2; exact u48.1 _ _ rfl rfl hz, fun o1 h1 => by cases h1; exact u48.2 _ rfl⟩⟩
      · -- 25
        refine hx_k (l := 27) (m := 20) rfl rfl (by decide) (fun z49 h50 => ?_)
        refine ax_go 1 (y := (32, [some (.ref o), some (.int or)], [.int z49, .ref o], w17, 0, 0)) rfl trivial ?_
        refine hx_pf (q := (0, 0, 0, 0, (-2147483648), 2147483647)) (s := 30) (l := 35) (v := .int z49) rfl rfl rfl (by decide) rfl rfl rfl hw23 hG0 g19 trivial (ck_top_ok (G := G) z49) (fun w51 fs52 g53 e54 o55 n56 hw57 n58 => ?_)
        have hs59 := ty_same_tr hs25 (n58 fz (hx_ok hfz (by decide)))
        have hf60 := hFF _ _ (n58 pr_ (by decide)) hf26
        refine ax_go 1 (y := (36, [some (.ref o), some (.int or)], [.ref o], w51, 0, 0)) rfl trivial ?_
        refine hx_pi (l := 39) (as := [.ref o]) rfl rfl (hx_iv (j := 166) (n := 0) (o := o) (r := []) rfl rfl g53 rfl) (ht_X9_reads (fz := fz) hF (io := or) (fw := z15) (lw := z49) ⟨fun _ => ⟨by omega, by omega⟩, fun _ => ⟨by omega, by omega⟩⟩ (fun q hq => (by decide +kernel : ∀ q ∈ fb_ht_X9_readsAs, q ∈ fb_ht_X9_reads) q (hfz q hq)) (d + 0)) hw57 hf60 ⟨(hx_tr (G := G) (s := 30) (b := 0) hG0 (by decide)), trivial⟩ (fun o1 h1 => by cases h1; exact ⟨⟨_, g53, ((o55 10 (by decide)).trans ((o21 10 (by decide)).trans e7))⟩, ⟨_, g53, ((o55 8 (by decide)).trans e20)⟩, ⟨_, g53, e54⟩⟩) (fun w61 z66 hw62 hf63 m64 a67 b68 u69 => ?_)
        have hs65 := ty_same_tr hs59 m64
        exact ax_ret rfl rfl ⟨hx_01 (by omega) (by omega), trivial⟩ ⟨some (.int z66), _, rfl, hw62, hf63, hs65, (hx_ti (G := G) (lo := 0) (hi := 1) (by omega) (by omega)), ⟨fun o1 b1 z1 h1 h2 hz => by cases h1; cases h2; exact u69.1 _ _ rfl rfl hz, fun o1 h1 => by cases h1; exact u69.2 _ rfl⟩⟩
    · -- 10
      refine hx_k (l := 12) (m := 14) rfl rfl (by decide) (fun z70 h71 => ?_)
      refine ax_go 1 (y := (17, [some (.ref o), some (.int or)], [.int z70, .ref o], w4, 0, 0)) rfl trivial ?_
      refine hx_pf (q := (0, 0, 0, 0, (-2147483648), 2147483647)) (s := 30) (l := 20) (v := .int z70) rfl rfl rfl (by decide) rfl rfl rfl hw10 hG0 g6 trivial (ck_top_ok (G := G) z70) (fun w72 fs73 g74 e75 o76 n77 hw78 n79 => ?_)
      have hs80 := ty_same_tr hs12 (n79 fz (hx_ok hfz (by decide)))
      have hf81 := hFF _ _ (n79 pr_ (by decide)) hf13
      refine ax_go 2 (y := (22, [some (.ref o), some (.int or)], [.int or, .ref o], w72, 0, 0)) rfl trivial ?_
      refine hx_if_eq (l := 25) rfl rfl (fun h82 => ?_) (fun h82 => ?_)
      · -- 30
        refine hx_k (l := 32) (m := 16) rfl rfl (by decide) (fun z83 h84 => ?_)
        refine hx_pf (q := (0, 0, 0, 0, (-2147483648), 2147483647)) (s := 30) (l := 35) (v := .int z83) rfl rfl rfl (by decide) rfl rfl rfl hw78 hG0 g74 trivial (ck_top_ok (G := G) z83) (fun w85 fs86 g87 e88 o89 n90 hw91 n92 => ?_)
        have hs93 := ty_same_tr hs80 (n92 fz (hx_ok hfz (by decide)))
        have hf94 := hFF _ _ (n92 pr_ (by decide)) hf81
        refine ax_go 1 (y := (36, [some (.ref o), some (.int or)], [.ref o], w85, 0, 0)) rfl trivial ?_
        refine hx_pi (l := 39) (as := [.ref o]) rfl rfl (hx_iv (j := 166) (n := 0) (o := o) (r := []) rfl rfl g87 rfl) (ht_X9_reads (fz := fz) hF (io := or) (fw := z70) (lw := z83) ⟨fun _ => ⟨by omega, by omega⟩, fun _ => ⟨by omega, by omega⟩⟩ (fun q hq => (by decide +kernel : ∀ q ∈ fb_ht_X9_readsAs, q ∈ fb_ht_X9_reads) q (hfz q hq)) (d + 0)) hw91 hf94 ⟨(hx_tr (G := G) (s := 30) (b := 0) hG0 (by decide)), trivial⟩ (fun o1 h1 => by cases h1; exact ⟨⟨_, g87, ((o89 10 (by decide)).trans ((o76 10 (by decide)).trans e7))⟩, ⟨_, g87, ((o89 8 (by decide)).trans e75)⟩, ⟨_, g87, e88⟩⟩) (fun w95 z100 hw96 hf97 m98 a101 b102 u103 => ?_)
        have hs99 := ty_same_tr hs93 m98
        exact ax_ret rfl rfl ⟨hx_01 (by omega) (by omega), trivial⟩ ⟨some (.int z100), _, rfl, hw96, hf97, hs99, (hx_ti (G := G) (lo := 0) (hi := 1) (by omega) (by omega)), ⟨fun o1 b1 z1 h1 h2 hz => by cases h1; cases h2; exact u103.1 _ _ rfl rfl hz, fun o1 h1 => by cases h1; exact u103.2 _ rfl⟩⟩
      · -- 25
        refine hx_k (l := 27) (m := 20) rfl rfl (by decide) (fun z104 h105 => ?_)
        refine ax_go 1 (y := (32, [some (.ref o), some (.int or)], [.int z104, .ref o], w72, 0, 0)) rfl trivial ?_
        refine hx_pf (q := (0, 0, 0, 0, (-2147483648), 2147483647)) (s := 30) (l := 35) (v := .int z104) rfl rfl rfl (by decide) rfl rfl rfl hw78 hG0 g74 trivial (ck_top_ok (G := G) z104) (fun w106 fs107 g108 e109 o110 n111 hw112 n113 => ?_)
        have hs114 := ty_same_tr hs80 (n113 fz (hx_ok hfz (by decide)))
        have hf115 := hFF _ _ (n113 pr_ (by decide)) hf81
        refine ax_go 1 (y := (36, [some (.ref o), some (.int or)], [.ref o], w106, 0, 0)) rfl trivial ?_
        refine hx_pi (l := 39) (as := [.ref o]) rfl rfl (hx_iv (j := 166) (n := 0) (o := o) (r := []) rfl rfl g108 rfl) (ht_X9_reads (fz := fz) hF (io := or) (fw := z70) (lw := z104) ⟨fun _ => ⟨by omega, by omega⟩, fun _ => ⟨by omega, by omega⟩⟩ (fun q hq => (by decide +kernel : ∀ q ∈ fb_ht_X9_readsAs, q ∈ fb_ht_X9_reads) q (hfz q hq)) (d + 0)) hw112 hf115 ⟨(hx_tr (G := G) (s := 30) (b := 0) hG0 (by decide)), trivial⟩ (fun o1 h1 => by cases h1; exact ⟨⟨_, g108, ((o110 10 (by decide)).trans ((o76 10 (by decide)).trans e7))⟩, ⟨_, g108, ((o110 8 (by decide)).trans e75)⟩, ⟨_, g108, e109⟩⟩) (fun w116 z121 hw117 hf118 m119 a122 b123 u124 => ?_)
        have hs120 := ty_same_tr hs114 m119
        exact ax_ret rfl rfl ⟨hx_01 (by omega) (by omega), trivial⟩ ⟨some (.int z121), _, rfl, hw117, hf118, hs120, (hx_ti (G := G) (lo := 0) (hi := 1) (by omega) (by omega)), ⟨fun o1 b1 z1 h1 h2 hz => by cases h1; cases h2; exact u124.1 _ _ rfl rfl hz, fun o1 h1 => by cases h1; exact u124.2 _ rfl⟩⟩
def fb_ht_X9_law : List (Nat × Nat) := [(8, 3), (8, 5), (19, 999), (33, 999), (34, 999), (35, 999), (44, 999), (45, 999), (1, 0), (18, 999), (2, 11), (2, 14), (1, 15), (54, 11), (4, 2), (7, 9), (30, 34), (30, 2), (30, 22), (30, 23), (30, 24), (30, 25), (46, 999), (47, 999), (30, 35), (30, 36), (7, 0), (24, 999), (37, 999), (30, 4), (30, 5), (30, 6), (30, 11), (30, 15), (30, 16), (30, 17), (30, 30), (30, 42), (30, 43), (30, 44), (1, 1), (1, 3), (1, 10), (1, 13), (8, 0), (30, 49), (2, 15), (8, 1)]
set_option maxHeartbeats 8000000 in
theorem ht_X9_law {ro : ab_R} {G : Nat → Nat} {fz : List (Nat × Nat)} {F : ab_W → Prop} (hF : ∀ w w', ty_same G prM w w' → F w → F w') (hfz : ∀ q ∈ fz, q ∈ fb_ht_X9_law) (d : Nat) : hx_ct ro sp_ G (F9 G F) fz (ab_Ev ro ab_codes (d + 75)) 169 [(2, 30, 0)] (some (0, (-2147483648), 2147483647)) (fun _ _ => True) (fun as w v w1 => ∀ (o : Nat) (b z : Int32), as = [.ref o] → v = some (.int z) → hx_has w o 9 13 (.int b) → ∃ b2 : Int32, hx_has w1 o 9 13 (.int b2) ∧ (b2.toInt = 0)) := by
  have hFF := F9_sameN hF
  refine hx_hand (d := d + 74) (by decide) (fun as w hw hf has hP => ?_)
  match as, has with
  | [v0], ⟨h0, _⟩ =>
    obtain ⟨o, rfl, _, hG0⟩ := ty_refn h0 rfl rfl
    replace hG0 : G o = 30 := hG0
    refine ⟨rfl, ?_⟩
    obtain ⟨fs1, g2, -, q3⟩ := hx_obj hw hG0 (s := 30) rfl (by decide)
    obtain ⟨pk, e_pk, hG_pk⟩ := hx_fr (k := 2) (s := 32) q3 rfl
    obtain ⟨f0, g_f0, r_f0⟩ := hx_row hw hG_pk (s := 32) (kd := 0) (n := 5721) rfl (by decide)
    obtain ⟨x4, e5, a6, b7⟩ := hx_fi (k := 13) (lo := 0) (hi := 400) q3 rfl
    change ab_wp ro (ab_Ev ro ab_codes (d + 74)) 9 false (some .int) ab_k_X9_law (fun o_1 => ∃ v w1, o_1 = (v, w1, 0, 0) ∧ ty_w sp_ G w1 ∧ (F9 G F) w1 ∧ ty_same G fz w w1 ∧ ck_res G (some (0, (-2147483648), 2147483647)) v ∧ (fun as w v w1 => ∀ (o : Nat) (b z : Int32), as = [.ref o] → v = some (.int z) → hx_has w o 9 13 (.int b) → ∃ b2 : Int32, hx_has w1 o 9 13 (.int b2) ∧ (b2.toInt = 0)) ([.ref o] : List Value) w v w1) (0, [some (.ref o)], [], w, 0, 0)
    refine ax_go 1 (y := (1, [some (.ref o)], [.ref o], w, 0, 0)) rfl trivial ?_
    refine hx_gf (l := 4) rfl rfl rfl g2 e_pk ?_
    refine hx_k (l := 6) (m := 112) rfl rfl (by decide) (fun z8 h9 => ?_)
    refine hx_il (l := 7) rfl rfl g_f0 (by omega) (by omega) (fun z10 h11 => ?_)
    have b12 := ((hf.1.1 _ _ hG_pk g_f0).1 z8.toInt.toNat (by omega)).2.2.2.2.2.2.1 (by omega)
    rw [← h11] at b12
    rw [show z8.toInt.toNat = 112 by omega] at h11
    replace h11 := congrArg Int32.toInt h11
    refine hx_k (l := 9) (m := 6) rfl rfl (by decide) (fun z13 h14 => ?_)
    refine hx_ic_ne (l := 12) rfl rfl (fun h15 => ?_) (fun h15 => ?_)
    · -- 24
      refine ax_go 1 (y := (25, [some (.ref o)], [.ref o], w, 0, 0)) rfl trivial ?_
      refine hx_k (l := 26) (m := 0) rfl rfl (by decide) (fun z16 h17 => ?_)
      refine hx_pi (l := 29) (as := [.ref o, .int z16]) rfl rfl (hx_iv (j := 167) (n := 1) (o := o) (r := []) rfl rfl g2 rfl) (ht_X9_readsAs (fz := ([(32, 999), (30, 2)] ++ fz)) (fun _ _ h => hF _ _ h.1) (hx_app (by decide +kernel) (fun q hq => (by decide +kernel : ∀ q ∈ fb_ht_X9_law, q ∈ fb_ht_X9_readsAs) q (hfz q hq))) (d + 1)) hw hf ⟨(hx_tr (G := G) (s := 30) (b := 0) hG0 (by decide)), (hx_ti (G := G) (lo := 0) (hi := 1) (by omega) (by omega)), trivial⟩ trivial (fun w18 z23 hw19 hf20 m21 a24 b25 u26 => ?_)
      have hs22 := ty_same_tr (ty_same_rf w) (hx_sapp m21)
      obtain ⟨fs27, g28, -, q29⟩ := hx_obj hw19 hG0 (s := 30) rfl (by decide)
      obtain ⟨bT30, ⟨fsT31, gT32, iT33⟩, hT34⟩ := u26.2 _ rfl
      replace u26 := u26.1
      obtain rfl := hx_inj g28 gT32
      refine hx_if_ne (l := 32) rfl rfl (fun h35 => ?_) (fun h35 => ?_)
      · -- 39
        obtain ⟨pc, fc, e, ⟨fsA36, gA37, iA38⟩, ⟨fsB39, gB40, iB41⟩, gc42, ⟨ha43, hb44⟩, hGW⟩ := u26 _ _ _ rfl rfl (by omega)
        obtain rfl := hx_inj g28 gA37
        obtain rfl := hx_inj g28 gB40
        have hG_pc := pa_r15 hw19 g28 hG0 iA38
        have hGW0 : decide (z16.toInt ≠ 0) = false := decide_eq_false (fun y => y (by omega))
        refine ax_go 2 (y := (41, [some (.ref o)], [.ref o, .ref o], w18, 0, 0)) rfl trivial ?_
        refine hx_gf (l := 44) rfl rfl rfl g28 ((hx_kf m21 (hx_mem hG0 (by decide)) g2 g28).trans e_pk) ?_
        refine hx_k (l := 46) (m := 112) rfl rfl (by decide) (fun z45 h46 => ?_)
        refine hx_il (l := 47) rfl rfl ((hx_kr m21 (hx_mem hG_pk (by decide))).trans g_f0) (by omega) (by omega) (fun z47 h48 => ?_)
        have b49 := ((hf20.1.1 _ _ hG_pk ((hx_kr m21 (hx_mem hG_pk (by decide))).trans g_f0)).1 z45.toInt.toNat (by omega)).2.2.2.2.2.2.1 (by omega)
        rw [← h48] at b49
        rw [show z45.toInt.toNat = 112 by omega] at h48
        replace h48 := congrArg Int32.toInt h48
        refine hx_p0 (l := 50) (as := [.ref o, .int z47]) rfl rfl (hx_iv (j := 168) (n := 1) (o := o) (r := []) rfl rfl g28 rfl) (hp_X9_lays (fz := ([(30, 13)] ++ fz)) hF (hx_app (by decide +kernel) (fun q hq => (by decide +kernel : ∀ q ∈ fb_ht_X9_law, q ∈ fb_hp_X9_lays) q (hfz q hq))) (d + 73)) hw19 hf20 ⟨(hx_tr (G := G) (s := 30) (b := 0) hG0 (by decide)), (hx_ti (G := G) (lo := 0) (hi := 6) (by omega) (by omega)), trivial⟩ (fun y0 y1 pk1 f1 h1 h2 h3 => by cases h1; obtain ⟨fs1, g1, e1⟩ := h2; obtain rfl := hx_inj g28 g1; cases ((hx_kf m21 (hx_mem hG0 (by decide)) g2 g28).trans e_pk).symm.trans e1; obtain rfl := hx_injr ((hx_kr m21 (hx_mem hG_pk (by decide))).trans g_f0) h3; omega) (fun w50 hw51 hf52 m53 u58 => ?_)
        have hs54 := ty_same_tr hs22 (hx_sapp m53)
        obtain ⟨fs59, g60, -, q61⟩ := hx_obj hw51 hG0 (s := 30) rfl (by decide)
        obtain ⟨⟨fs62, gA63, eA64⟩, fL65, gL66, hL67, hS68, hC69⟩ := u58 _ _ _ _ _ _ _ rfl ⟨_, g28, ((hx_kf m21 (hx_mem hG0 (by decide)) g2 g28).trans e_pk)⟩ ((hx_kr m21 (hx_mem hG_pk (by decide))).trans g_f0) ⟨_, g28, iA38⟩ gc42 ⟨_, g28, iB41⟩
        obtain rfl := hx_inj g60 gA63
        refine ax_go 1 (y := (51, [some (.ref o)], [.ref o], w50, 0, 0)) rfl trivial ?_
        refine hx_gf (l := 54) rfl rfl rfl gA63 eA64 ?_
        refine hx_k (l := 56) (m := 112) rfl rfl (by decide) (fun z70 h71 => ?_)
        refine ax_go 1 (y := (57, [some (.ref o)], [.int z70, .ref pk, .int z70, .ref pk], w50, 0, 0)) rfl trivial ?_
        have r72 := hx_rq hw51 gL66 hG_pk (s := 32) rfl
        refine hx_il (l := 58) rfl rfl gL66 (by omega) (by omega) (fun z73 h74 => ?_)
        have b75 := ((hf52.1.1 _ _ hG_pk gL66).1 z70.toInt.toNat (by omega)).2.2.2.2.2.2.1 (by omega)
        rw [← h74] at b75
        rw [show z70.toInt.toNat = 112 by omega, hL67 112 (by omega)] at h74
        replace h74 := congrArg Int32.toInt h74
        refine hx_k (l := 59) (m := 1) rfl rfl (by decide) (fun z76 h77 => ?_)
        refine hx_add (l := 60) rfl rfl (fun z78 h79 => ?_)
        replace h79 := h79 (by omega) (by omega)
        refine hx_is (s := 32) (l := 61) rfl rfl rfl hw51 hG_pk gL66 (by omega) (by omega) (hx_sg1 (fun _ _ _ => ⟨by omega, by omega⟩) (hx_sg1 (fun _ _ _ => ⟨by omega, by omega⟩) (hx_sg1 (fun _ _ _ => ⟨by omega, by omega⟩) (hx_sg1 (fun _ _ _ => ⟨by omega, by omega⟩) (hx_sg1 (fun _ _ _ => ⟨by omega, by omega⟩) (hx_sg1 (fun _ _ _ => ⟨by omega, by omega⟩) (hx_sg1 (fun _ _ _ => ⟨by omega, by omega⟩) (hx_sg1 (fun _ _ _ => ⟨by omega, by omega⟩) (hx_sg1 (fun _ _ _ => ⟨by omega, by omega⟩) hx_sg0))))))))) (fun w80 f81 g82 e83 o84 n85 hw86 n87 => ?_)
        have hs88 := ty_same_tr hs54 (n87 fz (hx_ok hfz (by decide)))
        have kp90 := hf52.1.1 _ _ hG_pk gL66
        have i112 : z70.toInt.toNat = 112 := by omega
        have l112 := congrArg Int32.toInt (hL67 112 (by omega))
        have t112 : (fL65 112).toInt.toNat = z47.toInt.toNat := by omega
        have hgw : gwf fL65 (fL65 112).toInt.toNat := by rw [t112]; exact gw_gwf (pa_lay (by omega) hS68 hC69 (hGW0 ▸ hGW))
        have hf89 : F9 G F w80 := ⟨FM_k hf52.1 hG_pk g82 n85 (KP_law kp90 (fun j hj => o84 j (by omega)) (by rw [← i112, e83, i112]; omega) (by rw [← i112, e83]; omega) hgw), hF _ _ (n87 prM (by decide)) hf52.2⟩
        refine ax_go 2 (y := (63, [some (.ref o)], [.ref o, .ref o], w80, 0, 0)) rfl trivial ?_
        refine hx_gf (l := 66) rfl rfl rfl ((n85 _ (hx_ne hG0 hG_pk (by decide))).trans gA63) eA64 ?_
        refine hx_k (l := 68) (m := 112) rfl rfl (by decide) (fun z92 h93 => ?_)
        have r94 := hx_rq hw86 g82 hG_pk (s := 32) rfl
        refine hx_il (l := 69) rfl rfl g82 (by omega) (by omega) (fun z95 h96 => ?_)
        have b97 := ((hf89.1.1 _ _ hG_pk g82).1 z92.toInt.toNat (by omega)).2.2.2.2.2.2.1 (by omega)
        rw [← h96] at b97
        refine hx_k (l := 70) (m := 1) rfl rfl (by decide) (fun z98 h99 => ?_)
        refine hx_sub (l := 71) rfl rfl (fun z100 h101 => ?_)
        replace h101 := h101 (by omega) (by omega)
        refine hx_ci (l := 74) (as := [.ref o, .int z100]) rfl rfl (hx_iv (j := 125) (n := 1) (o := o) (r := []) rfl rfl ((n85 _ (hx_ne hG0 hG_pk (by decide))).trans gA63) rfl) (cc_X9_good_0 (fz := ([(30, 13)] ++ fz)) hFF  (hx_app (by decide +kernel) (fun q hq => (by decide +kernel : ∀ q ∈ fb_ht_X9_law, q ∈ fr_X9_good_0) q (hfz q hq))) (d + 73)) hw86 hf89 ⟨(hx_tr (G := G) (s := 30) (b := 0) hG0 (by decide)), (ck_top_ok (G := G) z100), trivial⟩ (fun w102 z107 hw103 hf104 m105 a108 b109 u110 => ?_)
        have hs106 := ty_same_tr hs88 (hx_sapp m105)
        obtain ⟨fs111, g112, -, q113⟩ := hx_obj hw103 hG0 (s := 30) rfl (by decide)
        exact ax_ret rfl rfl trivial ⟨some (.int z107), _, rfl, hw103, hf104, hs106, (ck_top_ok (G := G) z107), (fun o1  b1 z1 h1 h2 h3 => by cases h1; cases h2; obtain ⟨fsA, gA, iA⟩ := h3; obtain rfl := hx_inj g2 gA; obtain rfl := hx_inji e5 iA; exact ⟨bT30, ⟨_, g112, ((hx_kf m105 (hx_mem hG0 (by decide)) ((n85 _ (hx_ne hG0 hG_pk (by decide))).trans gA63) g112).trans ((hx_kf m53 (hx_mem hG0 (by decide)) g28 g60).trans iT33))⟩, by omega⟩)⟩
      · -- 32
        refine ax_go 1 (y := (33, [some (.ref o)], [.ref o], w18, 0, 0)) rfl trivial ?_
        refine hx_k (l := 35) (m := (-6)) rfl rfl (by decide) (fun z114 h115 => ?_)
        refine hx_ci (l := 38) (as := [.ref o, .int z114]) rfl rfl (hx_iv (j := 124) (n := 1) (o := o) (r := []) rfl rfl g28 rfl) (cc_X9_refuses_0 (fz := ([(30, 13)] ++ fz)) hFF  (hx_app (by decide +kernel) (fun q hq => (by decide +kernel : ∀ q ∈ fb_ht_X9_law, q ∈ fr_X9_refuses_0) q (hfz q hq))) (d + 73)) hw19 hf20 ⟨(hx_tr (G := G) (s := 30) (b := 0) hG0 (by decide)), (hx_ti (G := G) (lo := (-6)) (hi := (-1)) (by omega) (by omega)), trivial⟩ (fun w116 z121 hw117 hf118 m119 a122 b123 u124 => ?_)
        have hs120 := ty_same_tr hs22 (hx_sapp m119)
        obtain ⟨fs125, g126, -, q127⟩ := hx_obj hw117 hG0 (s := 30) rfl (by decide)
        exact ax_ret rfl rfl trivial ⟨some (.int z121), _, rfl, hw117, hf118, hs120, (ck_top_ok (G := G) z121), (fun o1  b1 z1 h1 h2 h3 => by cases h1; cases h2; obtain ⟨fsA, gA, iA⟩ := h3; obtain rfl := hx_inj g2 gA; obtain rfl := hx_inji e5 iA; exact ⟨bT30, ⟨_, g126, ((hx_kf m119 (hx_mem hG0 (by decide)) g28 g126).trans iT33)⟩, by omega⟩)⟩
    · -- 12
      refine ax_go 1 (y := (13, [some (.ref o)], [.ref o], w, 0, 0)) rfl trivial ?_
      refine hx_k (l := 14) (m := 0) rfl rfl (by decide) (fun z128 h129 => ?_)
      refine hx_pf (q := (0, 0, 0, 0, 0, 400)) (s := 30) (l := 17) (v := .int z128) rfl rfl rfl (by decide) rfl rfl rfl hw hG0 g2 trivial (hx_ti (G := G) (lo := 0) (hi := 400) (by omega) (by omega)) (fun w130 fs131 g132 e133 o134 n135 hw136 n137 => ?_)
      have hs138 := ty_same_tr (ty_same_rf w) (n137 fz (hx_ok hfz (by decide)))
      have hf139 := hFF _ _ (n137 pr_ (by decide)) hf
      refine ax_go 1 (y := (18, [some (.ref o)], [.ref o], w130, 0, 0)) rfl trivial ?_
      refine hx_k (l := 20) (m := (-5)) rfl rfl (by decide) (fun z140 h141 => ?_)
      refine hx_ci (l := 23) (as := [.ref o, .int z140]) rfl rfl (hx_iv (j := 124) (n := 1) (o := o) (r := []) rfl rfl g132 rfl) (cc_X9_refuses_0 (fz := ([(30, 13)] ++ fz)) hFF  (hx_app (by decide +kernel) (fun q hq => (by decide +kernel : ∀ q ∈ fb_ht_X9_law, q ∈ fr_X9_refuses_0) q (hfz q hq))) (d + 73)) hw136 hf139 ⟨(hx_tr (G := G) (s := 30) (b := 0) hG0 (by decide)), (hx_ti (G := G) (lo := (-6)) (hi := (-1)) (by omega) (by omega)), trivial⟩ (fun w142 z147 hw143 hf144 m145 a148 b149 u150 => ?_)
      have hs146 := ty_same_tr hs138 (hx_sapp m145)
      obtain ⟨fs151, g152, -, q153⟩ := hx_obj hw143 hG0 (s := 30) rfl (by decide)
      exact ax_ret rfl rfl trivial ⟨some (.int z147), _, rfl, hw143, hf144, hs146, (ck_top_ok (G := G) z147), (fun o1  b1 z1 h1 h2 h3 => by cases h1; cases h2; obtain ⟨fsA, gA, iA⟩ := h3; obtain rfl := hx_inj g2 gA; obtain rfl := hx_inji e5 iA; exact ⟨z128, ⟨_, g152, ((hx_kf m145 (hx_mem hG0 (by decide)) g132 g152).trans e133)⟩, by omega⟩)⟩
def fb_ht_X9_orders : List (Nat × Nat) := [(8, 3), (8, 5), (19, 999), (33, 999), (34, 999), (1, 0), (18, 999), (2, 11), (2, 14), (1, 15), (54, 11), (4, 2), (7, 9), (30, 2), (46, 999), (47, 999), (30, 35), (30, 36), (7, 0), (24, 999), (37, 999), (30, 4), (30, 5), (30, 6), (30, 11), (30, 15), (30, 16), (30, 17), (30, 30), (1, 1), (1, 3), (1, 10), (1, 13), (8, 0), (30, 49), (2, 15), (8, 1)]
set_option maxHeartbeats 8000000 in
theorem ht_X9_orders {ro : ab_R} {G : Nat → Nat} {fz : List (Nat × Nat)} {F : ab_W → Prop} (hF : ∀ w w', ty_same G prM w w' → F w → F w') (hfz : ∀ q ∈ fz, q ∈ fb_ht_X9_orders) (d : Nat) : hx_ct ro sp_ G (F9 G F) fz (ab_Ev ro ab_codes (d + 104)) 229 [(2, 30, 0)] (some (0, (-2147483648), 2147483647)) (fun _ _ => True) (fun as w v w1 => ∀ (o : Nat) (b z : Int32), as = [.ref o] → v = some (.int z) → hx_has w o 9 13 (.int b) → ∃ b2 : Int32, hx_has w1 o 9 13 (.int b2) ∧ (b2.toInt = 0)) := by
  have hFF := F9_sameN hF
  refine hx_hand (d := d + 103) (by decide) (fun as w hw hf has hP => ?_)
  match as, has with
  | [v0], ⟨h0, _⟩ =>
    obtain ⟨o, rfl, _, hG0⟩ := ty_refn h0 rfl rfl
    replace hG0 : G o = 30 := hG0
    refine ⟨rfl, ?_⟩
    obtain ⟨fs1, g2, -, q3⟩ := hx_obj hw hG0 (s := 30) rfl (by decide)
    obtain ⟨pk, e_pk, hG_pk⟩ := hx_fr (k := 2) (s := 32) q3 rfl
    obtain ⟨f0, g_f0, r_f0⟩ := hx_row hw hG_pk (s := 32) (kd := 0) (n := 5721) rfl (by decide)
    obtain ⟨x4, e5, a6, b7⟩ := hx_fi (k := 13) (lo := 0) (hi := 400) q3 rfl
    have ct122 : ∀ (nq : Nat) (w8 : ab_W) (ua2 : Int32) (en2 : Int32) (n32 : Int32) (k4 : Int32) (tr : Int32), ty_w sp_ G w8 → (F9 G F) w8 → ty_same G fz w w8 → (hx_has w8 o 9 13 (.int tr)) → (tr.toInt = 0) → (0 ≤ ua2.toInt) → (ua2.toInt ≤ 16) → (0 ≤ k4.toInt) → (k4.toInt ≤ 1152) → (1153 - k4.toInt).toNat < nq → ab_wp ro (ab_Ev ro ab_codes (d + 103)) 9 false (some .int) ab_k_X9_orders (fun o_1 => ∃ v w1, o_1 = (v, w1, 0, 0) ∧ ty_w sp_ G w1 ∧ (F9 G F) w1 ∧ ty_same G fz w w1 ∧ ck_res G (some (0, (-2147483648), 2147483647)) v ∧ (fun as w v w1 => ∀ (o : Nat) (b z : Int32), as = [.ref o] → v = some (.int z) → hx_has w o 9 13 (.int b) → ∃ b2 : Int32, hx_has w1 o 9 13 (.int b2) ∧ (b2.toInt = 0)) ([.ref o] : List Value) w v w1) (122, [some (.ref o), some (.int ua2), some (.int en2), some (.int n32), some (.int k4)], [], w8, 0, 0) := by
      intro nq
      induction nq with
      | zero => intro w8 ua2 en2 n32 k4 tr hw15 hf16 hs17 hh9 i10 i11 i12 i13 i14 hm; exact absurd hm (Nat.not_lt_zero _)
      | succ nq ih122 =>
        intro w8 ua2 en2 n32 k4 tr hw15 hf16 hs17 hh9 i10 i11 i12 i13 i14 hm122
        obtain ⟨fs18, g19, e20⟩ := hh9
        have q21 := hx_oq hw15 g19 hG0 (s := 30) rfl
        obtain ⟨x22, e23, a24, b25⟩ := hx_fi (k := 13) (lo := 0) (hi := 400) q21 rfl
        obtain rfl : tr = x22 := hx_inji e20 e23
        refine ax_go 1 (y := (124, [some (.ref o), some (.int ua2), some (.int en2), some (.int n32), some (.int k4)], [.int k4], w8, 0, 0)) rfl trivial ?_
        refine hx_k (l := 127) (m := 1152) rfl rfl (by decide) (fun z26 h27 => ?_)
        refine hx_ic_ge (l := 130) rfl rfl (fun h28 => ?_) (fun h28 => ?_)
        · -- 150
          refine ax_go 2 (y := (152, [some (.ref o), some (.int ua2), some (.int en2), some (.int n32), some (.int k4)], [.int ua2, .ref o], w8, 0, 0)) rfl trivial ?_
          refine hx_pf (q := (0, 0, 0, 0, 0, 16)) (s := 30) (l := 155) (v := .int ua2) rfl rfl rfl (by decide) rfl rfl rfl hw15 hG0 g19 trivial (hx_ti (G := G) (lo := 0) (hi := 16) (by omega) (by omega)) (fun w29 fs30 g31 e32 o33 n34 hw35 n36 => ?_)
          have hs37 := ty_same_tr hs17 (n36 fz (hx_ok hfz (by decide)))
          have hf38 := hFF _ _ (n36 pr_ (by decide)) hf16
          refine ax_go 2 (y := (157, [some (.ref o), some (.int ua2), some (.int en2), some (.int n32), some (.int k4)], [.int n32, .ref o], w29, 0, 0)) rfl trivial ?_
          refine hx_pf (q := (0, 0, 0, 0, (-2147483648), 2147483647)) (s := 30) (l := 160) (v := .int n32) rfl rfl rfl (by decide) rfl rfl rfl hw35 hG0 g31 trivial (ck_top_ok (G := G) n32) (fun w39 fs40 g41 e42 o43 n44 hw45 n46 => ?_)
          have hs47 := ty_same_tr hs37 (n46 fz (hx_ok hfz (by decide)))
          have hf48 := hFF _ _ (n46 pr_ (by decide)) hf38
          refine ax_go 1 (y := (161, [some (.ref o), some (.int ua2), some (.int en2), some (.int n32), some (.int k4)], [.ref o], w39, 0, 0)) rfl trivial ?_
          refine hx_k (l := 163) (m := (-3)) rfl rfl (by decide) (fun z49 h50 => ?_)
          refine hx_ci (l := 166) (as := [.ref o, .int z49]) rfl rfl (hx_iv (j := 124) (n := 1) (o := o) (r := []) rfl rfl g41 rfl) (cc_X9_refuses_0 (fz := ([(30, 13)] ++ fz)) hFF  (hx_app (by decide +kernel) (fun q hq => (by decide +kernel : ∀ q ∈ fb_ht_X9_orders, q ∈ fr_X9_refuses_0) q (hfz q hq))) (d + 102)) hw45 hf48 ⟨(hx_tr (G := G) (s := 30) (b := 0) hG0 (by decide)), (hx_ti (G := G) (lo := (-6)) (hi := (-1)) (by omega) (by omega)), trivial⟩ (fun w51 z56 hw52 hf53 m54 a57 b58 u59 => ?_)
          have hs55 := ty_same_tr hs47 (hx_sapp m54)
          obtain ⟨fs60, g61, -, q62⟩ := hx_obj hw52 hG0 (s := 30) rfl (by decide)
          exact ax_ret rfl rfl trivial ⟨some (.int z56), _, rfl, hw52, hf53, hs55, (ck_top_ok (G := G) z56), (fun o1  b1 z1 h1 h2 h3 => by cases h1; cases h2; obtain ⟨fsA, gA, iA⟩ := h3; obtain rfl := hx_inj g2 gA; obtain rfl := hx_inji e5 iA; exact ⟨tr, ⟨_, g61, ((hx_kf m54 (hx_mem hG0 (by decide)) g41 g61).trans ((o43 13 (by decide)).trans ((o33 13 (by decide)).trans e20)))⟩, by omega⟩)⟩
        · -- 130
          refine ax_go 1 (y := (131, [some (.ref o), some (.int ua2), some (.int en2), some (.int n32), some (.int k4)], [.ref o], w8, 0, 0)) rfl trivial ?_
          obtain ⟨p63, e64, hG65⟩ := hx_fr (k := 32) (s := 44) q21 rfl
          refine hx_gf (l := 134) rfl rfl rfl g19 e64 ?_
          refine ax_go 2 (y := (137, [some (.ref o), some (.int ua2), some (.int en2), some (.int n32), some (.int k4)], [.ref o, .int k4, .ref p63], w8, 0, 0)) rfl trivial ?_
          obtain ⟨p66, e67, hG68⟩ := hx_fr (k := 33) (s := 45) q21 rfl
          refine hx_gf (l := 140) rfl rfl rfl g19 e67 ?_
          refine ax_go 1 (y := (142, [some (.ref o), some (.int ua2), some (.int en2), some (.int n32), some (.int k4)], [.int k4, .ref p66, .int k4, .ref p63], w8, 0, 0)) rfl trivial ?_
          obtain ⟨f69, g70, r71⟩ := hx_row hw15 hG68 (s := 45) (kd := 0) (n := 1152) rfl (by decide)
          refine hx_il (l := 143) rfl rfl g70 (by omega) (by omega) (fun z72 h73 => ?_)
          obtain ⟨f74, g75, r76⟩ := hx_row hw15 hG65 (s := 44) (kd := 0) (n := 1152) rfl (by decide)
          refine hx_is (s := 44) (l := 144) rfl rfl rfl hw15 hG65 g75 (by omega) (by omega) hx_sg0 (fun w77 f78 g79 e80 o81 n82 hw83 n84 => ?_)
          have hs85 := ty_same_tr hs17 (n84 fz (hx_ok hfz (by decide)))
          have old2 := hf16.1.2.2.1 _ _ hG65 g75
          have mvn : ∀ r k1 : Nat, r < 16 → k1 < 71 → k4.toInt.toNat = 72 * r + k1 → mv_b k1 (f78 k4.toInt.toNat).toInt := by
            intro r k1 hr hk e0
            rw [e80, h73, show k4.toInt.toNat = 72 * r + k1 by omega]
            exact hf16.1.2.2.2.1 _ _ hG68 g70 r hr k1 hk
          have hf86 : F9 G F w77 := ⟨FM_l hf16.1 hG65 g79 n82 (ML_up old2 o81 mvn), hF _ _ (n84 prM (by decide)) hf16.2⟩
          refine hx_iinc (x := k4) (n := 1) (l := 147) rfl rfl rfl (Nat.le_of_ble_eq_true rfl) (by omega) (by omega) (by decide) (fun z87 h88 => ?_)
          change ab_wp ro (ab_Ev ro ab_codes (d + 103)) 9 false (some .int) ab_k_X9_orders (fun o_1 => ∃ v w1, o_1 = (v, w1, 0, 0) ∧ ty_w sp_ G w1 ∧ (F9 G F) w1 ∧ ty_same G fz w w1 ∧ ck_res G (some (0, (-2147483648), 2147483647)) v ∧ (fun as w v w1 => ∀ (o : Nat) (b z : Int32), as = [.ref o] → v = some (.int z) → hx_has w o 9 13 (.int b) → ∃ b2 : Int32, hx_has w1 o 9 13 (.int b2) ∧ (b2.toInt = 0)) ([.ref o] : List Value) w v w1) (147, [some (.ref o), some (.int ua2), some (.int en2), some (.int n32), some (.int z87)], [], w77, 0, 0)
          refine ax_go 1 (y := (122, [some (.ref o), some (.int ua2), some (.int en2), some (.int n32), some (.int z87)], [], w77, 0, 0)) rfl trivial ?_
          exact ih122 w77 ua2 en2 n32 z87 tr hw83 hf86 hs85 ⟨_, ((n82 _ (hx_ne hG0 hG65 (by decide))).trans g19), e20⟩ (by omega) (by omega) (by omega) (by omega) (by omega) (by omega)
    have ct95 : ∀ (nq : Nat) (w89 : ab_W) (ua : Int32) (en : Int32) (n3 : Int32) (u4 : Option Int32) (oa : Int32) (tq : Int32) (fX : Nat → Int32), ty_w sp_ G w89 → (F9 G (FX pk fX F)) w89 → ty_same G fz w w89 → (hx_has w89 o 9 2 (.ref pk)) → (hx_has w89 o 9 42 (.int oa)) → (hx_has w89 o 9 13 (.int tq)) → (tq.toInt = 0) → (0 ≤ ua.toInt) → (ua.toInt ≤ 16) → (en.toInt ≤ 2800) → (0 ≤ oa.toInt) → (0 ≤ n3.toInt) → (n3.toInt ≤ oa.toInt) → (GW true (cf fX) en.toInt.toNat oa.toInt.toNat) → (2802 - oa.toInt).toNat < nq → ab_wp ro (ab_Ev ro ab_codes (d + 103)) 9 false (some .int) ab_k_X9_orders (fun o_1 => ∃ v w1, o_1 = (v, w1, 0, 0) ∧ ty_w sp_ G w1 ∧ (F9 G F) w1 ∧ ty_same G fz w w1 ∧ ck_res G (some (0, (-2147483648), 2147483647)) v ∧ (fun as w v w1 => ∀ (o : Nat) (b z : Int32), as = [.ref o] → v = some (.int z) → hx_has w o 9 13 (.int b) → ∃ b2 : Int32, hx_has w1 o 9 13 (.int b2) ∧ (b2.toInt = 0)) ([.ref o] : List Value) w v w1) (95, [some (.ref o), some (.int ua), some (.int en), some (.int n3), (u4.map Value.int)], [], w89, 0, 0) := by
      intro nq
      induction nq with
      | zero => intro w89 ua en n3 u4 oa tq fX hw100 hf101 hs102 hh90 hh91 hh92 i93 i94 i95 i96 i97 i98 i99 hW hm; exact absurd hm (Nat.not_lt_zero _)
      | succ nq ih95 =>
        intro w89 ua en n3 u4 oa tq fX hw100 hf101 hs102 hh90 hh91 hh92 i93 i94 i95 i96 i97 i98 i99 hW hm95
        obtain ⟨fs103, g104, e105⟩ := hh90
        obtain ⟨fs106, g107, e108⟩ := hh91
        obtain rfl : fs103 = fs106 := hx_inj g104 g107
        have q109 := hx_oq hw100 g104 hG0 (s := 30) rfl
        obtain ⟨x110, e111, a112, b113⟩ := hx_fi (k := 42) (lo := (-2147483648)) (hi := 2147483647) q109 rfl
        obtain rfl : oa = x110 := hx_inji e108 e111
        obtain ⟨fs114, g115, e116⟩ := hh92
        obtain rfl : fs103 = fs114 := hx_inj g104 g115
        obtain ⟨x117, e118, a119, b120⟩ := hx_fi (k := 13) (lo := 0) (hi := 400) q109 rfl
        obtain rfl : tq = x117 := hx_inji e116 e118
        refine ax_go 1 (y := (96, [some (.ref o), some (.int ua), some (.int en), some (.int n3), (u4.map Value.int)], [.ref o], w89, 0, 0)) rfl trivial ?_
        refine hx_gf (l := 99) rfl rfl rfl g104 e108 ?_
        refine ax_go 1 (y := (100, [some (.ref o), some (.int ua), some (.int en), some (.int n3), (u4.map Value.int)], [.int en, .int oa], w89, 0, 0)) rfl trivial ?_
        refine hx_ic_ge (l := 103) rfl rfl (fun h121 => ?_) (fun h121 => ?_)
        · -- 173
          have hf122 : F9 G F w89 := ⟨hf101.1, hf101.2.2⟩
          refine ax_go 2 (y := (175, [some (.ref o), some (.int ua), some (.int en), some (.int n3), (u4.map Value.int)], [.ref o, .ref o], w89, 0, 0)) rfl trivial ?_
          obtain ⟨x123, e124, a125, b126⟩ := hx_fi (k := 27) (lo := (-2147483648)) (hi := 2147483647) q109 rfl
          refine hx_gf (l := 178) rfl rfl rfl g104 e124 ?_
          refine hx_ci (l := 181) (as := [.ref o, .int x123]) rfl rfl (hx_iv (j := 125) (n := 1) (o := o) (r := []) rfl rfl g104 rfl) (cc_X9_good_0 (fz := ([(30, 13)] ++ fz)) hFF  (hx_app (by decide +kernel) (fun q hq => (by decide +kernel : ∀ q ∈ fb_ht_X9_orders, q ∈ fr_X9_good_0) q (hfz q hq))) (d + 102)) hw100 hf122 ⟨(hx_tr (G := G) (s := 30) (b := 0) hG0 (by decide)), (ck_top_ok (G := G) x123), trivial⟩ (fun w127 z132 hw128 hf129 m130 a133 b134 u135 => ?_)
          have hs131 := ty_same_tr hs102 (hx_sapp m130)
          obtain ⟨fs136, g137, -, q138⟩ := hx_obj hw128 hG0 (s := 30) rfl (by decide)
          exact ax_ret rfl rfl trivial ⟨some (.int z132), _, rfl, hw128, hf129, hs131, (ck_top_ok (G := G) z132), (fun o1  b1 z1 h1 h2 h3 => by cases h1; cases h2; obtain ⟨fsA, gA, iA⟩ := h3; obtain rfl := hx_inj g2 gA; obtain rfl := hx_inji e5 iA; exact ⟨tq, ⟨_, g137, ((hx_kf m130 (hx_mem hG0 (by decide)) g104 g137).trans e116)⟩, by omega⟩)⟩
        · -- 103
          obtain ⟨fn, q, hk1, hk2, hW2⟩ := gw_in hW (by omega)
          refine ax_go 2 (y := (105, [some (.ref o), some (.int ua), some (.int en), some (.int n3), (u4.map Value.int)], [.int en, .ref o], w89, 0, 0)) rfl trivial ?_
          refine hx_pi (l := 108) (as := [.ref o, .int en]) rfl rfl (hx_iv (j := 233) (n := 1) (o := o) (r := []) rfl rfl g104 rfl) (hp_X9_runs (fz := ([(30, 2), (30, 13)] ++ fz)) hF (pk := pk) (f0 := fX) hG_pk (a := oa) (fn := fn) (q := q) (hx_app (by decide +kernel) (fun q hq => (by decide +kernel : ∀ q ∈ fb_ht_X9_orders, q ∈ fb_hp_X9_runs) q (hfz q hq))) (d + 3)) hw100 hf101 ⟨(hx_tr (G := G) (s := 30) (b := 0) hG0 (by decide)), (hx_ti (G := G) (lo := 0) (hi := 2800) (by omega) (by omega)), trivial⟩ (fun o1 e1 h1 => by cases h1; exact ⟨by omega, by omega, hk1, ⟨_, g104, e105⟩, ⟨_, g104, e108⟩⟩) (fun w139 z144 hw140 hf141 m142 a145 b146 u147 => ?_)
          have hs143 := ty_same_tr hs102 (hx_sapp m142)
          obtain ⟨fs148, g149, -, q150⟩ := hx_obj hw140 hG0 (s := 30) rfl (by decide)
          refine hx_if_eq (l := 111) rfl rfl (fun h151 => ?_) (fun h151 => ?_)
          · -- 114
            have hf152 : F9 G F w139 := ⟨hf141.1, hf141.2.2⟩
            refine ax_go 1 (y := (115, [some (.ref o), some (.int ua), some (.int en), some (.int n3), (u4.map Value.int)], [.ref o], w139, 0, 0)) rfl trivial ?_
            refine hx_k (l := 116) (m := 1) rfl rfl (by decide) (fun z153 h154 => ?_)
            refine hx_p0 (l := 119) (as := [.ref o, .int z153]) rfl rfl (hx_iv (j := 130) (n := 1) (o := o) (r := []) rfl rfl g149 rfl) (hp_X9_takesBack (fz := ([(30, 13)] ++ fz)) (fun _ _ h => hF _ _ h.1) (hx_app (by decide +kernel) (fun q hq => (by decide +kernel : ∀ q ∈ fb_ht_X9_orders, q ∈ fb_hp_X9_takesBack) q (hfz q hq))) (d + 102)) hw140 hf152 ⟨(hx_tr (G := G) (s := 30) (b := 0) hG0 (by decide)), (hx_ti (G := G) (lo := 0) (hi := 1) (by omega) (by omega)), trivial⟩ trivial (fun w155 hw156 hf157 m158 u163 => ?_)
            have hs159 := ty_same_tr hs143 (hx_sapp m158)
            obtain ⟨fs164, g165, -, q166⟩ := hx_obj hw156 hG0 (s := 30) rfl (by decide)
            refine hx_k (l := 120) (m := 0) rfl rfl (by decide) (fun z167 h168 => ?_)
            refine ax_go 1 (y := (122, [some (.ref o), some (.int ua), some (.int en), some (.int n3), some (.int z167)], [], w155, 0, 0)) rfl trivial ?_
            exact ct122 _ w155 ua en n3 z167 tq hw156 hf157 hs159 ⟨_, g165, ((hx_kf m158 (hx_mem hG0 (by decide)) g149 g165).trans ((hx_kf m142 (hx_mem hG0 (by decide)) g104 g149).trans e116))⟩ (by omega) (by omega) (by omega) (by omega) (by omega) (Nat.lt_succ_self _)
          · -- 111
            obtain ⟨gO169, ⟨fsO170, gA171, iA172⟩, hO173⟩ := u147 _ _ _ rfl rfl (by omega)
            obtain rfl := hx_inj g149 gA171
            refine ax_go 1 (y := (167, [some (.ref o), some (.int ua), some (.int en), some (.int n3), (u4.map Value.int)], [], w139, 0, 0)) rfl trivial ?_
            refine hx_iinc (x := n3) (n := 1) (l := 170) rfl rfl rfl (Nat.le_of_ble_eq_true rfl) (by omega) (by omega) (by decide) (fun z174 h175 => ?_)
            change ab_wp ro (ab_Ev ro ab_codes (d + 103)) 9 false (some .int) ab_k_X9_orders (fun o_1 => ∃ v w1, o_1 = (v, w1, 0, 0) ∧ ty_w sp_ G w1 ∧ (F9 G F) w1 ∧ ty_same G fz w w1 ∧ ck_res G (some (0, (-2147483648), 2147483647)) v ∧ (fun as w v w1 => ∀ (o : Nat) (b z : Int32), as = [.ref o] → v = some (.int z) → hx_has w o 9 13 (.int b) → ∃ b2 : Int32, hx_has w1 o 9 13 (.int b2) ∧ (b2.toInt = 0)) ([.ref o] : List Value) w v w1) (170, [some (.ref o), some (.int ua), some (.int en), some (.int z174), (u4.map Value.int)], [], w139, 0, 0)
            refine ax_go 1 (y := (95, [some (.ref o), some (.int ua), some (.int en), some (.int z174), (u4.map Value.int)], [], w139, 0, 0)) rfl trivial ?_
            exact ih95 w139 ua en z174 u4 gO169 tq fX hw140 hf141 hs143 ⟨_, g149, ((hx_kf m142 (hx_mem hG0 (by decide)) g104 g149).trans e105)⟩ ⟨_, g149, iA172⟩ ⟨_, g149, ((hx_kf m142 (hx_mem hG0 (by decide)) g104 g149).trans e116)⟩ (by omega) (by omega) (by omega) (by omega) (by omega) (by omega) (by omega) (by rw [show gO169.toInt.toNat = q + 1 by omega]; exact hW2) (by omega)
    have ct27 : ∀ (nq : Nat) (w176 : ab_W) (i : Int32) (e : Int32) (tp : Int32) (fc : Nat → Int32) (pc : Nat), ty_w sp_ G w176 → (F9 G F) w176 → ty_same G fz w w176 → (hx_has w176 o 9 2 (.ref pk)) → (hx_has w176 o 9 15 (.ref pc)) → (hx_has w176 o 9 18 (.int e)) → (hx_has w176 o 9 13 (.int tp)) → (w176[pk]? = some (.inl (0, 5721, .inl f0))) → (w176[pc]? = some (.inl (0, 401, .inl fc))) → (G pc = 39) → (tp.toInt = 0) → (0 ≤ e.toInt) → (e.toInt ≤ 400) → (GW true (cd fc) e.toInt.toNat 0) → (0 ≤ i.toInt) → (i.toInt ≤ 1152) → (1153 - i.toInt).toNat < nq → ab_wp ro (ab_Ev ro ab_codes (d + 103)) 9 false (some .int) ab_k_X9_orders (fun o_1 => ∃ v w1, o_1 = (v, w1, 0, 0) ∧ ty_w sp_ G w1 ∧ (F9 G F) w1 ∧ ty_same G fz w w1 ∧ ck_res G (some (0, (-2147483648), 2147483647)) v ∧ (fun as w v w1 => ∀ (o : Nat) (b z : Int32), as = [.ref o] → v = some (.int z) → hx_has w o 9 13 (.int b) → ∃ b2 : Int32, hx_has w1 o 9 13 (.int b2) ∧ (b2.toInt = 0)) ([.ref o] : List Value) w v w1) (27, [some (.ref o), some (.int i), none, none, none], [], w176, 0, 0) := by
      intro nq
      induction nq with
      | zero => intro w176 i e tp fc pc hw188 hf189 hs190 hh177 hh178 hh179 hh180 g181 g182 hG_pc i183 i184 i185 hGW i186 i187 hm; exact absurd hm (Nat.not_lt_zero _)
      | succ nq ih27 =>
        intro w176 i e tp fc pc hw188 hf189 hs190 hh177 hh178 hh179 hh180 g181 g182 hG_pc i183 i184 i185 hGW i186 i187 hm27
        obtain ⟨fs191, g192, e193⟩ := hh177
        obtain ⟨fs194, g195, e196⟩ := hh178
        obtain rfl : fs191 = fs194 := hx_inj g192 g195
        obtain ⟨fs197, g198, e199⟩ := hh179
        obtain rfl : fs191 = fs197 := hx_inj g192 g198
        have q200 := hx_oq hw188 g192 hG0 (s := 30) rfl
        obtain ⟨x201, e202, a203, b204⟩ := hx_fi (k := 18) (lo := 0) (hi := 400) q200 rfl
        obtain rfl : e = x201 := hx_inji e199 e202
        obtain ⟨fs205, g206, e207⟩ := hh180
        obtain rfl : fs191 = fs205 := hx_inj g192 g206
        obtain ⟨x208, e209, a210, b211⟩ := hx_fi (k := 13) (lo := 0) (hi := 400) q200 rfl
        obtain rfl : tp = x208 := hx_inji e207 e209
        refine ax_go 1 (y := (28, [some (.ref o), some (.int i), none, none, none], [.int i], w176, 0, 0)) rfl trivial ?_
        refine hx_k (l := 31) (m := 1152) rfl rfl (by decide) (fun z212 h213 => ?_)
        refine hx_ic_ge (l := 34) rfl rfl (fun h214 => ?_) (fun h214 => ?_)
        · -- 52
          refine ax_go 1 (y := (53, [some (.ref o), some (.int i), none, none, none], [.ref o], w176, 0, 0)) rfl trivial ?_
          obtain ⟨x215, e216, a217, b218⟩ := hx_fi (k := 34) (lo := 0) (hi := 16) q200 rfl
          refine hx_gf (l := 56) rfl rfl rfl g192 e216 ?_
          refine ax_go 1 (y := (57, [some (.ref o), some (.int x215), none, none, none], [], w176, 0, 0)) rfl trivial ?_
          have k112 := ((hf189.1.1 _ _ hG_pk g181).1 112 (by decide)).2.2.2.2.2.2.1 rfl
          refine ax_go 1 (y := (58, [some (.ref o), some (.int x215), none, none, none], [.ref o], w176, 0, 0)) rfl trivial ?_
          refine hx_k (l := 60) (m := 6) rfl rfl (by decide) (fun z219 h220 => ?_)
          refine hx_p0 (l := 63) (as := [.ref o, .int z219]) rfl rfl (hx_iv (j := 168) (n := 1) (o := o) (r := []) rfl rfl g192 rfl) (hp_X9_lays (fz := ([(30, 13)] ++ fz)) hF (hx_app (by decide +kernel) (fun q hq => (by decide +kernel : ∀ q ∈ fb_ht_X9_orders, q ∈ fb_hp_X9_lays) q (hfz q hq))) (d + 102)) hw188 hf189 ⟨(hx_tr (G := G) (s := 30) (b := 0) hG0 (by decide)), (hx_ti (G := G) (lo := 0) (hi := 6) (by omega) (by omega)), trivial⟩ (fun y0 y1 pk1 f1 h1 h2 h3 => by cases h1; obtain ⟨fs1, g1, e1⟩ := h2; obtain rfl := hx_inj g192 g1; cases e193.symm.trans e1; obtain rfl := hx_injr g181 h3; omega) (fun w221 hw222 hf223 m224 u229 => ?_)
          have hs225 := ty_same_tr hs190 (hx_sapp m224)
          obtain ⟨fs230, g231, -, q232⟩ := hx_obj hw222 hG0 (s := 30) rfl (by decide)
          obtain ⟨⟨fs233, gA234, eA235⟩, fL236, gL237, hL238, hS239, hC240⟩ := u229 _ _ _ _ _ _ _ rfl ⟨_, g192, e193⟩ g181 ⟨_, g192, e196⟩ g182 ⟨_, g192, e199⟩
          obtain rfl := hx_inj g231 gA234
          refine ax_go 1 (y := (64, [some (.ref o), some (.int x215), none, none, none], [.ref o], w221, 0, 0)) rfl trivial ?_
          refine hx_k (l := 65) (m := 0) rfl rfl (by decide) (fun z241 h242 => ?_)
          refine hx_pf (q := (0, 0, 0, 0, (-2147483648), 2147483647)) (s := 30) (l := 68) (v := .int z241) rfl rfl rfl (by decide) rfl rfl rfl hw222 hG0 gA234 trivial (ck_top_ok (G := G) z241) (fun w243 fs244 g245 e246 o247 n248 hw249 n250 => ?_)
          have hs251 := ty_same_tr hs225 (n250 fz (hx_ok hfz (by decide)))
          have hf252 := hFF _ _ (n250 pr_ (by decide)) hf223
          refine ax_go 1 (y := (69, [some (.ref o), some (.int x215), none, none, none], [.ref o], w243, 0, 0)) rfl trivial ?_
          refine hx_k (l := 70) (m := (-1)) rfl rfl (by decide) (fun z253 h254 => ?_)
          refine hx_pf (q := (0, 0, 0, 0, (-2147483648), 2147483647)) (s := 30) (l := 73) (v := .int z253) rfl rfl rfl (by decide) rfl rfl rfl hw249 hG0 g245 trivial (ck_top_ok (G := G) z253) (fun w255 fs256 g257 e258 o259 n260 hw261 n262 => ?_)
          have hs263 := ty_same_tr hs251 (n262 fz (hx_ok hfz (by decide)))
          have hf264 := hFF _ _ (n262 pr_ (by decide)) hf252
          refine ax_go 1 (y := (74, [some (.ref o), some (.int x215), none, none, none], [.ref o], w255, 0, 0)) rfl trivial ?_
          refine hx_k (l := 77) (m := 2400) rfl rfl (by decide) (fun z265 h266 => ?_)
          refine hx_pf (q := (0, 0, 0, 0, (-2147483648), 2147483647)) (s := 30) (l := 80) (v := .int z265) rfl rfl rfl (by decide) rfl rfl rfl hw261 hG0 g257 trivial (ck_top_ok (G := G) z265) (fun w267 fs268 g269 e270 o271 n272 hw273 n274 => ?_)
          have hs275 := ty_same_tr hs263 (n274 fz (hx_ok hfz (by decide)))
          have hf276 := hFF _ _ (n274 pr_ (by decide)) hf264
          refine ax_go 1 (y := (81, [some (.ref o), some (.int x215), none, none, none], [.ref o], w267, 0, 0)) rfl trivial ?_
          refine hx_gf (l := 84) rfl rfl rfl g269 e270 ?_
          refine ax_go 1 (y := (85, [some (.ref o), some (.int x215), none, none, none], [.ref o, .int z265], w267, 0, 0)) rfl trivial ?_
          refine hx_gf (l := 88) rfl rfl rfl g269 ((o271 2 (by decide)).trans ((o259 2 (by decide)).trans ((o247 2 (by decide)).trans eA235))) ?_
          refine hx_k (l := 90) (m := 120) rfl rfl (by decide) (fun z277 h278 => ?_)
          have r279 := hx_rq hw273 ((n272 _ (hx_ne hG_pk hG0 (by decide))).trans ((n260 _ (hx_ne hG_pk hG0 (by decide))).trans ((n248 _ (hx_ne hG_pk hG0 (by decide))).trans gL237))) hG_pk (s := 32) rfl
          refine hx_il (l := 91) rfl rfl ((n272 _ (hx_ne hG_pk hG0 (by decide))).trans ((n260 _ (hx_ne hG_pk hG0 (by decide))).trans ((n248 _ (hx_ne hG_pk hG0 (by decide))).trans gL237))) (by omega) (by omega) (fun z280 h281 => ?_)
          have b282 := ((hf276.1.1 _ _ hG_pk ((n272 _ (hx_ne hG_pk hG0 (by decide))).trans ((n260 _ (hx_ne hG_pk hG0 (by decide))).trans ((n248 _ (hx_ne hG_pk hG0 (by decide))).trans gL237)))).1 z277.toInt.toNat (by omega)).2.2.2.2.2.2.2.2 (by omega) (by omega)
          rw [← h281] at b282
          rw [show z277.toInt.toNat = 114 + z219.toInt.toNat by omega] at h281
          replace h281 := congrArg Int32.toInt h281
          refine hx_add (l := 92) rfl rfl (fun z283 h284 => ?_)
          replace h284 := h284 (by omega) (by omega)
          refine ax_go 1 (y := (93, [some (.ref o), some (.int x215), some (.int z283), none, none], [], w267, 0, 0)) rfl trivial ?_
          refine hx_k (l := 94) (m := 0) rfl rfl (by decide) (fun z285 h286 => ?_)
          refine ax_go 1 (y := (95, [some (.ref o), some (.int x215), some (.int z283), some (.int z285), none], [], w267, 0, 0)) rfl trivial ?_
          exact ct95 _ w267 x215 z283 z285 none z265 tp fL236 hw273 ⟨hf276.1, ⟨fL236, ((n272 _ (hx_ne hG_pk hG0 (by decide))).trans ((n260 _ (hx_ne hG_pk hG0 (by decide))).trans ((n248 _ (hx_ne hG_pk hG0 (by decide))).trans gL237))), fun _ _ => rfl⟩, hf276.2⟩ hs275 ⟨_, g269, ((o271 2 (by decide)).trans ((o259 2 (by decide)).trans ((o247 2 (by decide)).trans eA235)))⟩ ⟨_, g269, e270⟩ ⟨_, g269, ((o271 13 (by decide)).trans ((o259 13 (by decide)).trans ((o247 13 (by decide)).trans ((hx_kf m224 (hx_mem hG0 (by decide)) g192 g231).trans e207))))⟩ (by omega) (by omega) (by omega) (by omega) (by omega) (by omega) (by omega) (by rw [show z283.toInt.toNat = 400 * z219.toInt.toNat + (fL236 (114 + z219.toInt.toNat)).toInt.toNat by omega, show z265.toInt.toNat = 400 * z219.toInt.toNat by omega]; exact pa_lay (by omega) hS239 hC240 hGW) (Nat.lt_succ_self _)
        · -- 34
          refine ax_go 1 (y := (35, [some (.ref o), some (.int i), none, none, none], [.ref o], w176, 0, 0)) rfl trivial ?_
          obtain ⟨p287, e288, hG289⟩ := hx_fr (k := 33) (s := 45) q200 rfl
          refine hx_gf (l := 38) rfl rfl rfl g192 e288 ?_
          refine ax_go 2 (y := (40, [some (.ref o), some (.int i), none, none, none], [.ref o, .int i, .ref p287], w176, 0, 0)) rfl trivial ?_
          obtain ⟨p290, e291, hG292⟩ := hx_fr (k := 32) (s := 44) q200 rfl
          refine hx_gf (l := 43) rfl rfl rfl g192 e291 ?_
          refine ax_go 1 (y := (44, [some (.ref o), some (.int i), none, none, none], [.int i, .ref p290, .int i, .ref p287], w176, 0, 0)) rfl trivial ?_
          obtain ⟨f293, g294, r295⟩ := hx_row hw188 hG292 (s := 44) (kd := 0) (n := 1152) rfl (by decide)
          refine hx_il (l := 45) rfl rfl g294 (by omega) (by omega) (fun z296 h297 => ?_)
          obtain ⟨f298, g299, r300⟩ := hx_row hw188 hG289 (s := 45) (kd := 0) (n := 1152) rfl (by decide)
          refine hx_is (s := 45) (l := 46) rfl rfl rfl hw188 hG289 g299 (by omega) (by omega) hx_sg0 (fun w301 f302 g303 e304 o305 n306 hw307 n308 => ?_)
          have hs309 := ty_same_tr hs190 (n308 fz (hx_ok hfz (by decide)))
          have old2 := hf189.1.2.2.2.1 _ _ hG289 g299
          have mvn : ∀ r k1 : Nat, r < 16 → k1 < 71 → i.toInt.toNat = 72 * r + k1 → mv_b k1 (f302 i.toInt.toNat).toInt := by
            intro r k1 hr hk e0
            rw [e304, h297, show i.toInt.toNat = 72 * r + k1 by omega]
            exact hf189.1.2.2.1 _ _ hG292 g294 r hr k1 hk
          have hf310 : F9 G F w301 := ⟨FM_L hf189.1 hG289 g303 n306 (ML_up old2 o305 mvn), hF _ _ (n308 prM (by decide)) hf189.2⟩
          refine hx_iinc (x := i) (n := 1) (l := 49) rfl rfl rfl (Nat.le_of_ble_eq_true rfl) (by omega) (by omega) (by decide) (fun z311 h312 => ?_)
          change ab_wp ro (ab_Ev ro ab_codes (d + 103)) 9 false (some .int) ab_k_X9_orders (fun o_1 => ∃ v w1, o_1 = (v, w1, 0, 0) ∧ ty_w sp_ G w1 ∧ (F9 G F) w1 ∧ ty_same G fz w w1 ∧ ck_res G (some (0, (-2147483648), 2147483647)) v ∧ (fun as w v w1 => ∀ (o : Nat) (b z : Int32), as = [.ref o] → v = some (.int z) → hx_has w o 9 13 (.int b) → ∃ b2 : Int32, hx_has w1 o 9 13 (.int b2) ∧ (b2.toInt = 0)) ([.ref o] : List Value) w v w1) (49, [some (.ref o), some (.int z311), none, none, none], [], w301, 0, 0)
          refine ax_go 1 (y := (27, [some (.ref o), some (.int z311), none, none, none], [], w301, 0, 0)) rfl trivial ?_
          exact ih27 w301 z311 e tp fc pc hw307 hf310 hs309 ⟨_, ((n306 _ (hx_ne hG0 hG289 (by decide))).trans g192), e193⟩ ⟨_, ((n306 _ (hx_ne hG0 hG289 (by decide))).trans g192), e196⟩ ⟨_, ((n306 _ (hx_ne hG0 hG289 (by decide))).trans g192), e199⟩ ⟨_, ((n306 _ (hx_ne hG0 hG289 (by decide))).trans g192), e207⟩ ((n306 _ (hx_ne hG_pk hG289 (by decide))).trans g181) ((n306 _ (hx_ne hG_pc hG289 (by decide))).trans g182) hG_pc (by omega) (by omega) (by omega) hGW (by omega) (by omega) (by omega)
    change ab_wp ro (ab_Ev ro ab_codes (d + 103)) 9 false (some .int) ab_k_X9_orders (fun o_1 => ∃ v w1, o_1 = (v, w1, 0, 0) ∧ ty_w sp_ G w1 ∧ (F9 G F) w1 ∧ ty_same G fz w w1 ∧ ck_res G (some (0, (-2147483648), 2147483647)) v ∧ (fun as w v w1 => ∀ (o : Nat) (b z : Int32), as = [.ref o] → v = some (.int z) → hx_has w o 9 13 (.int b) → ∃ b2 : Int32, hx_has w1 o 9 13 (.int b2) ∧ (b2.toInt = 0)) ([.ref o] : List Value) w v w1) (0, [some (.ref o), none, none, none, none], [], w, 0, 0)
    refine ax_go 1 (y := (1, [some (.ref o), none, none, none, none], [.ref o], w, 0, 0)) rfl trivial ?_
    refine hx_k (l := 2) (m := (-1)) rfl rfl (by decide) (fun z313 h314 => ?_)
    refine hx_pf (q := (0, 0, 0, 0, (-2147483648), 2147483647)) (s := 30) (l := 5) (v := .int z313) rfl rfl rfl (by decide) rfl rfl rfl hw hG0 g2 trivial (ck_top_ok (G := G) z313) (fun w315 fs316 g317 e318 o319 n320 hw321 n322 => ?_)
    have hs323 := ty_same_tr (ty_same_rf w) (n322 fz (hx_ok hfz (by decide)))
    have hf324 := hFF _ _ (n322 pr_ (by decide)) hf
    refine ax_go 1 (y := (6, [some (.ref o), none, none, none, none], [.ref o], w315, 0, 0)) rfl trivial ?_
    refine hx_k (l := 7) (m := 1) rfl rfl (by decide) (fun z325 h326 => ?_)
    refine hx_pi (l := 10) (as := [.ref o, .int z325]) rfl rfl (hx_iv (j := 167) (n := 1) (o := o) (r := []) rfl rfl g317 rfl) (ht_X9_readsAs (fz := ([(32, 999), (30, 2)] ++ fz)) (fun _ _ h => hF _ _ h.1) (hx_app (by decide +kernel) (fun q hq => (by decide +kernel : ∀ q ∈ fb_ht_X9_orders, q ∈ fb_ht_X9_readsAs) q (hfz q hq))) (d + 30)) hw321 hf324 ⟨(hx_tr (G := G) (s := 30) (b := 0) hG0 (by decide)), (hx_ti (G := G) (lo := 0) (hi := 1) (by omega) (by omega)), trivial⟩ trivial (fun w327 z332 hw328 hf329 m330 a333 b334 u335 => ?_)
    have hs331 := ty_same_tr hs323 (hx_sapp m330)
    obtain ⟨fs336, g337, -, q338⟩ := hx_obj hw328 hG0 (s := 30) rfl (by decide)
    obtain ⟨bT339, ⟨fsT340, gT341, iT342⟩, hT343⟩ := u335.2 _ rfl
    replace u335 := u335.1
    obtain rfl := hx_inj g337 gT341
    refine hx_if_ne (l := 13) rfl rfl (fun h344 => ?_) (fun h344 => ?_)
    · -- 20
      obtain ⟨pc, fc, e, ⟨fsA345, gA346, iA347⟩, ⟨fsB348, gB349, iB350⟩, gc351, ⟨ha352, hb353⟩, hGW⟩ := u335 _ _ _ rfl rfl (by omega)
      obtain rfl := hx_inj g337 gA346
      obtain rfl := hx_inj g337 gB349
      have hG_pc := pa_r15 hw328 g337 hG0 iA347
      have hGW1 : decide (z325.toInt ≠ 0) = true := decide_eq_true (by omega)
      rw [hGW1] at hGW
      refine ax_go 1 (y := (21, [some (.ref o), none, none, none, none], [.ref o], w327, 0, 0)) rfl trivial ?_
      refine hx_k (l := 22) (m := 1) rfl rfl (by decide) (fun z354 h355 => ?_)
      refine hx_p0 (l := 25) (as := [.ref o, .int z354]) rfl rfl (hx_iv (j := 129) (n := 1) (o := o) (r := []) rfl rfl g337 rfl) (hp_X9_laysAside (fz := ([(32, 999), (30, 2), (39, 999), (30, 15), (30, 18), (30, 13)] ++ fz)) (fun _ _ h => hF _ _ h.1) (hx_app (by decide +kernel) (fun q hq => (by decide +kernel : ∀ q ∈ fb_ht_X9_orders, q ∈ fb_hp_X9_laysAside) q (hfz q hq))) (d + 102)) hw328 hf329 ⟨(hx_tr (G := G) (s := 30) (b := 0) hG0 (by decide)), (hx_ti (G := G) (lo := 0) (hi := 1) (by omega) (by omega)), trivial⟩ trivial (fun w356 hw357 hf358 m359 u364 => ?_)
      have hs360 := ty_same_tr hs331 (hx_sapp m359)
      obtain ⟨fs365, g366, -, q367⟩ := hx_obj hw357 hG0 (s := 30) rfl (by decide)
      refine hx_k (l := 26) (m := 0) rfl rfl (by decide) (fun z368 h369 => ?_)
      refine ax_go 1 (y := (27, [some (.ref o), some (.int z368), none, none, none], [], w356, 0, 0)) rfl trivial ?_
      exact ct27 _ w356 z368 e bT339 fc pc hw357 hf358 hs360 ⟨_, g366, ((hx_kf m359 (hx_mem hG0 (by decide)) g337 g366).trans ((hx_kf m330 (hx_mem hG0 (by decide)) g317 g337).trans ((o319 2 (by decide)).trans e_pk)))⟩ ⟨_, g366, ((hx_kf m359 (hx_mem hG0 (by decide)) g337 g366).trans iA347)⟩ ⟨_, g366, ((hx_kf m359 (hx_mem hG0 (by decide)) g337 g366).trans iB350)⟩ ⟨_, g366, ((hx_kf m359 (hx_mem hG0 (by decide)) g337 g366).trans iT342)⟩ ((hx_kr m359 (hx_mem hG_pk (by decide))).trans ((hx_kr m330 (hx_mem hG_pk (by decide))).trans ((n320 _ (hx_ne hG_pk hG0 (by decide))).trans g_f0))) ((hx_kr m359 (hx_mem hG_pc (by decide))).trans gc351) hG_pc (by omega) (by omega) (by omega) hGW (by omega) (by omega) (Nat.lt_succ_self _)
    · -- 13
      refine ax_go 1 (y := (14, [some (.ref o), none, none, none, none], [.ref o], w327, 0, 0)) rfl trivial ?_
      refine hx_k (l := 16) (m := (-6)) rfl rfl (by decide) (fun z370 h371 => ?_)
      refine hx_ci (l := 19) (as := [.ref o, .int z370]) rfl rfl (hx_iv (j := 124) (n := 1) (o := o) (r := []) rfl rfl g337 rfl) (cc_X9_refuses_0 (fz := ([(30, 13)] ++ fz)) hFF  (hx_app (by decide +kernel) (fun q hq => (by decide +kernel : ∀ q ∈ fb_ht_X9_orders, q ∈ fr_X9_refuses_0) q (hfz q hq))) (d + 102)) hw328 hf329 ⟨(hx_tr (G := G) (s := 30) (b := 0) hG0 (by decide)), (hx_ti (G := G) (lo := (-6)) (hi := (-1)) (by omega) (by omega)), trivial⟩ (fun w372 z377 hw373 hf374 m375 a378 b379 u380 => ?_)
      have hs376 := ty_same_tr hs331 (hx_sapp m375)
      obtain ⟨fs381, g382, -, q383⟩ := hx_obj hw373 hG0 (s := 30) rfl (by decide)
      exact ax_ret rfl rfl trivial ⟨some (.int z377), _, rfl, hw373, hf374, hs376, (ck_top_ok (G := G) z377), (fun o1  b1 z1 h1 h2 h3 => by cases h1; cases h2; obtain ⟨fsA, gA, iA⟩ := h3; obtain rfl := hx_inj g2 gA; obtain rfl := hx_inji e5 iA; exact ⟨bT339, ⟨_, g382, ((hx_kf m375 (hx_mem hG0 (by decide)) g337 g382).trans iT342)⟩, by omega⟩)⟩
