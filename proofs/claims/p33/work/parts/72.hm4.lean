/-! walks by program: the reference -/
def fb_X9_back : List (Nat × Nat) := [(8, 3), (8, 5), (19, 999), (33, 999), (34, 999), (35, 999), (44, 999), (45, 999), (1, 0), (18, 999), (2, 11), (2, 14), (1, 15), (54, 11), (4, 2), (7, 9), (30, 13), (30, 2), (30, 22), (30, 23), (30, 24), (30, 25), (46, 999), (47, 999), (30, 35), (30, 36), (7, 0), (24, 999), (37, 999), (30, 4), (30, 5), (30, 6), (30, 8), (30, 9), (30, 10), (30, 11), (30, 14), (30, 15), (30, 16), (30, 17), (30, 18), (30, 19), (30, 20), (30, 21), (39, 999), (40, 999), (41, 999), (30, 30), (30, 42), (30, 43), (30, 44), (1, 1), (1, 3), (1, 10), (1, 13), (8, 0), (30, 49), (2, 15), (8, 1)]
set_option maxHeartbeats 8000000 in
theorem h_X9_back {ro : ab_R} {G : Nat → Nat} {fz : List (Nat × Nat)} {F : ab_W → Prop} (hF : ∀ w w', ty_same G prM w w' → F w → F w') (hU2 : ∀ p p', G p = 32 → G p' = 32 → p = p') (hfz : ∀ q ∈ fz, q ∈ fb_X9_back) (d : Nat) : ck_ct ro sp_ G (F9 G F) fz (ab_Ev ro ab_codes (d + 3)) 132 [(2, 30, 0), (0, (-2147483648), 2147483647)] (some (0, (-2147483648), 2147483647)) 0 0 := by
  have hFF := F9_sameN hF
  refine ck_hand (d := d + 2) (by decide) (fun as w hw hf has => ?_)
  match as, has with
  | [v0, v1], ⟨h0, h1, _⟩ =>
    obtain ⟨o, rfl, _, hG0⟩ := ty_refn h0 rfl rfl
    replace hG0 : G o = 30 := hG0
    obtain ⟨k, rfl, hl1, hh1⟩ := ty_int h1 rfl
    replace hl1 : ((-2147483648) : Int) ≤ k.toInt := hl1
    replace hh1 : k.toInt ≤ 2147483647 := hh1
    refine ⟨rfl, ?_⟩
    obtain ⟨fs1, g2, -, q3⟩ := hx_obj hw hG0 (s := 30) rfl (by decide)
    obtain ⟨pk, e_pk, hG_pk⟩ := hx_fr (k := 2) (s := 32) q3 rfl
    obtain ⟨pi, e_pi, hG_pi⟩ := hx_fr (k := 3) (s := 33) q3 rfl
    obtain ⟨gi, g_gi, r_gi⟩ := hx_row hw hG_pi (s := 33) (kd := 0) (n := 11442) rfl (by decide)
    have ct33 : ∀ (nq : Nat) (w4 : ab_W) (i : Int32) (fk : Nat → Int32), ty_w sp_ G w4 → (F9y G F) w4 → ty_same G fz w w4 → (hx_has w4 o 9 2 (.ref pk)) → (hx_has w4 o 9 3 (.ref pi)) → (w4[pk]? = some (.inl (0, 5721, .inl fk))) → (w4[pi]? = some (.inl (0, 11442, .inl gi))) → (0 ≤ i.toInt) → (i.toInt ≤ 5721) → (0 ≤ k.toInt) → (k.toInt ≤ 1) → (KP (fun i => gi (5721 * k.toInt.toNat + i))) → (∀ j : Nat, (j : Int) < i.toInt → fk j = gi (5721 * k.toInt.toNat + j)) → (5722 - i.toInt).toNat < nq → ab_wp ro (ab_Ev ro ab_codes (d + 2)) 9 false (some .int) ab_k_X9_back (fun o_1 => ∃ v w1, o_1 = (v, w1, 0, 0) ∧ ty_w sp_ G w1 ∧ (F9 G F) w1 ∧ ty_same G fz w w1 ∧ ck_res G (some (0, (-2147483648), 2147483647)) v ∧ ck_wit 0 0 [.ref o, .int k] v) (33, [some (.ref o), some (.int k), some (.int i)], [], w4, 0, 0) := by
      intro nq
      induction nq with
      | zero => intro w4 i fk hw13 hf14 hs15 hh5 hh6 g7 g8 i9 i10 i11 i12 hKi hcp hm; exact absurd hm (Nat.not_lt_zero _)
      | succ nq ih33 =>
        intro w4 i fk hw13 hf14 hs15 hh5 hh6 g7 g8 i9 i10 i11 i12 hKi hcp hm33
        obtain ⟨fs16, g17, e18⟩ := hh5
        obtain ⟨fs19, g20, e21⟩ := hh6
        obtain rfl : fs16 = fs19 := hx_inj g17 g20
        refine ax_go 1 (y := (34, [some (.ref o), some (.int k), some (.int i)], [.int i], w4, 0, 0)) rfl trivial ?_
        refine hx_k (l := 37) (m := 5721) rfl rfl (by decide) (fun z22 h23 => ?_)
        refine hx_ic_ge (l := 40) rfl rfl (fun h24 => ?_) (fun h24 => ?_)
        · -- 64
          have hf25 : F9 G F w4 := F9y_done hf14 hU2 hG_pk g7 (KP_ext hKi (fun j hj => hcp j (by omega)))
          refine ax_go 1 (y := (65, [some (.ref o), some (.int k), some (.int i)], [.ref o], w4, 0, 0)) rfl trivial ?_
          refine hx_k (l := 66) (m := 0) rfl rfl (by decide) (fun z26 h27 => ?_)
          refine hx_ci (l := 69) (as := [.ref o, .int z26]) rfl rfl (hx_iv (j := 126) (n := 1) (o := o) (r := []) rfl rfl g17 rfl) (h_X9_settled (fz := fz) (fun _ _ h => hF _ _ h.1) (fun q hq => (by decide +kernel : ∀ q ∈ fb_X9_back, q ∈ fb_X9_settled) q (hfz q hq)) (d + 0)) hw13 hf25 ⟨(hx_tr (G := G) (s := 30) (b := 0) hG0 (by decide)), (ck_top_ok (G := G) z26), trivial⟩ (fun w28 z33 hw29 hf30 m31 a34 b35 u36 => ?_)
          have hs32 := ty_same_tr hs15 m31
          exact ax_ret rfl rfl trivial ⟨some (.int z33), _, rfl, hw29, hf30, hs32, (ck_top_ok (G := G) z33), trivial⟩
        · -- 40
          refine ax_go 1 (y := (41, [some (.ref o), some (.int k), some (.int i)], [.ref o], w4, 0, 0)) rfl trivial ?_
          refine hx_gf (l := 44) rfl rfl rfl g17 e18 ?_
          refine ax_go 2 (y := (46, [some (.ref o), some (.int k), some (.int i)], [.ref o, .int i, .ref pk], w4, 0, 0)) rfl trivial ?_
          refine hx_gf (l := 49) rfl rfl rfl g17 e21 ?_
          refine hx_k (l := 52) (m := 5721) rfl rfl (by decide) (fun z37 h38 => ?_)
          refine ax_go 1 (y := (53, [some (.ref o), some (.int k), some (.int i)], [.int k, .int z37, .ref pi, .int i, .ref pk], w4, 0, 0)) rfl trivial ?_
          refine hx_mul (l := 54) rfl rfl (fun z39 h40 => ?_)
          rw [h38] at h40
          replace h40 := h40 (by omega) (by omega)
          refine ax_go 1 (y := (55, [some (.ref o), some (.int k), some (.int i)], [.int i, .int z39, .ref pi, .int i, .ref pk], w4, 0, 0)) rfl trivial ?_
          refine hx_add (l := 56) rfl rfl (fun z41 h42 => ?_)
          replace h42 := h42 (by omega) (by omega)
          have r43 := hx_rq hw13 g8 hG_pi (s := 33) rfl
          refine hx_il (l := 57) rfl rfl g8 (by omega) (by omega) (fun z44 h45 => ?_)
          have kbq : kb i.toInt.toNat z44.toInt := by
            have y := hKi.1 i.toInt.toNat (by omega)
            rw [show (fun i => gi (5721 * k.toInt.toNat + i)) i.toInt.toNat = z44 by rw [h45, show z41.toInt.toNat = 5721 * k.toInt.toNat + i.toInt.toNat by omega]] at y
            exact y
          refine hx_is (s := 32) (l := 58) rfl rfl rfl hw13 hG_pk g7 (by omega) (by omega) (kb_sg kbq) (fun w46 f47 g48 e49 o50 n51 hw52 n53 => ?_)
          have hs54 := ty_same_tr hs15 (n53 fz (hx_ok hfz (by decide)))
          have hf55 : F9y G F w46 := F9y_put hf14 hG_pk n51 (hF _ _ (n53 prM (by decide)) hf14.2)
          refine hx_iinc (x := i) (n := 1) (l := 61) rfl rfl rfl (Nat.le_of_ble_eq_true rfl) (by omega) (by omega) (by decide) (fun z56 h57 => ?_)
          change ab_wp ro (ab_Ev ro ab_codes (d + 2)) 9 false (some .int) ab_k_X9_back (fun o_1 => ∃ v w1, o_1 = (v, w1, 0, 0) ∧ ty_w sp_ G w1 ∧ (F9 G F) w1 ∧ ty_same G fz w w1 ∧ ck_res G (some (0, (-2147483648), 2147483647)) v ∧ ck_wit 0 0 [.ref o, .int k] v) (61, [some (.ref o), some (.int k), some (.int z56)], [], w46, 0, 0)
          refine ax_go 1 (y := (33, [some (.ref o), some (.int k), some (.int z56)], [], w46, 0, 0)) rfl trivial ?_
          exact ih33 w46 z56 f47 hw52 hf55 hs54 ⟨_, ((n51 _ (hx_ne hG0 hG_pk (by decide))).trans g17), e18⟩ ⟨_, ((n51 _ (hx_ne hG0 hG_pk (by decide))).trans g17), e21⟩ g48 ((n51 _ (hx_ne hG_pi hG_pk (by decide))).trans g8) (by omega) (by omega) (by omega) (by omega) hKi (fun j hj => by
            by_cases zz : (j : Int) = i.toInt
            · rw [show j = i.toInt.toNat by omega, e49, h45, show z41.toInt.toNat = 5721 * k.toInt.toNat + i.toInt.toNat by omega]
            · rw [o50 _ (by omega)]; exact hcp j (by omega)) (by omega)
    change ab_wp ro (ab_Ev ro ab_codes (d + 2)) 9 false (some .int) ab_k_X9_back (fun o_1 => ∃ v w1, o_1 = (v, w1, 0, 0) ∧ ty_w sp_ G w1 ∧ (F9 G F) w1 ∧ ty_same G fz w w1 ∧ ck_res G (some (0, (-2147483648), 2147483647)) v ∧ ck_wit 0 0 [.ref o, .int k] v) (0, [some (.ref o), some (.int k), none], [], w, 0, 0)
    refine ax_go 1 (y := (1, [some (.ref o), some (.int k), none], [.int k], w, 0, 0)) rfl trivial ?_
    refine hx_k (l := 2) (m := 0) rfl rfl (by decide) (fun z58 h59 => ?_)
    refine hx_k (l := 3) (m := 1) rfl rfl (by decide) (fun z60 h61 => ?_)
    refine hx_pi (l := 6) (as := [.int k, .int z58, .int z60]) rfl rfl rfl (hp_X9_lies (fz := fz) hFF (fun q hq => (by decide +kernel : ∀ q ∈ fb_X9_back, q ∈ fb_hp_X9_lies) q (hfz q hq)) (d + 1)) hw hf ⟨(ck_top_ok (G := G) k), (ck_top_ok (G := G) z58), (ck_top_ok (G := G) z60), trivial⟩ trivial (fun w62 z67 hw63 hf64 m65 a68 b69 u70 => ?_)
    rw [u70.1]
    have u71 := u70.2 _ _ _ _ rfl rfl
    clear u70
    refine hx_if_ne (l := 9) rfl rfl (fun h72 => ?_) (fun h72 => ?_)
    · -- 15
      replace u71 := u71.1 (by omega)
      refine ax_go 1 (y := (16, [some (.ref o), some (.int k), none], [.ref o], w, 0, 0)) rfl trivial ?_
      obtain ⟨p73, e74, hG75⟩ := hx_fr (k := 4) (s := 34) q3 rfl
      refine hx_gf (l := 19) rfl rfl rfl g2 e74 ?_
      refine ax_go 1 (y := (20, [some (.ref o), some (.int k), none], [.int k, .ref p73], w, 0, 0)) rfl trivial ?_
      obtain ⟨f76, g77, r78⟩ := hx_row hw hG75 (s := 34) (kd := 3) (n := 2) rfl (by decide)
      refine hx_bl (l := 21) rfl rfl g77 (by decide) (by omega) (by omega) (fun z79 h80 => ?_)
      have hKi0 : z79.toInt ≠ 0 → KP (fun i => gi (5721 * k.toInt.toNat + i)) := fun hz => hf.1.2.2.2.2 _ _ _ _ hG_pi g_gi hG75 g77 k.toInt.toNat (by omega) (by rw [show k.toInt.toNat = k.toInt.toNat by omega, ← h80]; exact hz)
      refine hx_if_ne (l := 24) rfl rfl (fun h81 => ?_) (fun h81 => ?_)
      · -- 31
        refine hx_k (l := 32) (m := 0) rfl rfl (by decide) (fun z82 h83 => ?_)
        refine ax_go 1 (y := (33, [some (.ref o), some (.int k), some (.int z82)], [], w, 0, 0)) rfl trivial ?_
        obtain ⟨f84, g85, r86⟩ := hx_row hw hG_pk (s := 32) (kd := 0) (n := 5721) rfl (by decide)
        exact ct33 _ w z82 f84 hw (F9y_of hf) (ty_same_rf w) ⟨_, g2, e_pk⟩ ⟨_, g2, e_pi⟩ g85 g_gi (by omega) (by omega) (by omega) (by omega) (hKi0 (by omega)) (fun j hj => absurd hj (by omega)) (Nat.lt_succ_self _)
      · -- 24
        refine ax_go 1 (y := (25, [some (.ref o), some (.int k), none], [.ref o], w, 0, 0)) rfl trivial ?_
        refine hx_k (l := 27) (m := (-2)) rfl rfl (by decide) (fun z87 h88 => ?_)
        refine hx_ci (l := 30) (as := [.ref o, .int z87]) rfl rfl (hx_iv (j := 124) (n := 1) (o := o) (r := []) rfl rfl g2 rfl) (cc_X9_refuses_0 (fz := fz) hFF  (fun q hq => (by decide +kernel : ∀ q ∈ fb_X9_back, q ∈ fr_X9_refuses_0) q (hfz q hq)) (d + 1)) hw hf ⟨(hx_tr (G := G) (s := 30) (b := 0) hG0 (by decide)), (hx_ti (G := G) (lo := (-6)) (hi := (-1)) (by omega) (by omega)), trivial⟩ (fun w89 z94 hw90 hf91 m92 a95 b96 u97 => ?_)
        have hs93 := ty_same_tr (ty_same_rf w) m92
        exact ax_ret rfl rfl trivial ⟨some (.int z94), _, rfl, hw90, hf91, hs93, (ck_top_ok (G := G) z94), trivial⟩
    · -- 9
      clear u71
      refine ax_go 1 (y := (10, [some (.ref o), some (.int k), none], [.ref o], w, 0, 0)) rfl trivial ?_
      refine hx_k (l := 11) (m := (-1)) rfl rfl (by decide) (fun z98 h99 => ?_)
      refine hx_ci (l := 14) (as := [.ref o, .int z98]) rfl rfl (hx_iv (j := 124) (n := 1) (o := o) (r := []) rfl rfl g2 rfl) (cc_X9_refuses_0 (fz := fz) hFF  (fun q hq => (by decide +kernel : ∀ q ∈ fb_X9_back, q ∈ fr_X9_refuses_0) q (hfz q hq)) (d + 1)) hw hf ⟨(hx_tr (G := G) (s := 30) (b := 0) hG0 (by decide)), (hx_ti (G := G) (lo := (-6)) (hi := (-1)) (by omega) (by omega)), trivial⟩ (fun w100 z105 hw101 hf102 m103 a106 b107 u108 => ?_)
      have hs104 := ty_same_tr (ty_same_rf w) m103
      exact ax_ret rfl rfl trivial ⟨some (.int z105), _, rfl, hw101, hf102, hs104, (ck_top_ok (G := G) z105), trivial⟩
def fb_X9_row : List (Nat × Nat) := [(8, 3), (8, 5), (19, 999), (33, 999), (34, 999), (35, 999), (44, 999), (45, 999), (1, 0), (18, 999), (2, 11), (2, 14), (1, 15), (54, 11), (4, 2), (7, 9), (30, 2), (30, 22), (30, 23), (30, 24), (30, 25), (46, 999), (47, 999), (30, 35), (30, 36), (7, 0), (24, 999), (37, 999), (30, 4), (30, 5), (30, 8), (30, 9), (30, 10), (30, 11), (30, 14), (30, 15), (30, 16), (30, 17), (30, 18), (30, 19), (30, 20), (30, 21), (39, 999), (40, 999), (41, 999), (30, 30), (30, 42), (30, 43), (30, 44), (1, 1), (1, 3), (1, 10), (1, 13), (8, 0), (30, 49), (2, 15), (8, 1)]
set_option maxHeartbeats 8000000 in
theorem h_X9_row {ro : ab_R} {G : Nat → Nat} {fz : List (Nat × Nat)} {F : ab_W → Prop} (hF : ∀ w w', smt G w w' → F w → F w') (hfz : ∀ q ∈ fz, q ∈ fb_X9_row) (d : Nat) : ck_ct ro sp_ G (F9 G F) fz (ab_Ev ro ab_codes (d + 4)) 142 [(2, 30, 0)] (some (0, (-2147483648), 2147483647)) 0 0 := by
  have hFF := F9_same hF
  refine ck_hand (d := d + 3) (by decide) (fun as w hw hf has => ?_)
  match as, has with
  | [v0], ⟨h0, _⟩ =>
    obtain ⟨o, rfl, _, hG0⟩ := ty_refn h0 rfl rfl
    replace hG0 : G o = 30 := hG0
    refine ⟨rfl, ?_⟩
    have ct40 : ∀ (nq : Nat) (w1 : ab_W) (sz : Int32) (nn : Int32) (a1 : Int32) (u4 : Option Int32) (u5 : Option Int32) (u6 : Option Int32) (u7 : Option Int32), ty_w sp_ G w1 → (F9 G F) w1 → ty_same G fz w w1 → (0 ≤ sz.toInt) → (sz.toInt ≤ 400) → (0 ≤ a1.toInt) → (a1.toInt ≤ 402) → (403 - a1.toInt).toNat < nq → ab_wp ro (ab_Ev ro ab_codes (d + 3)) 9 false (some .int) ab_k_X9_row (fun o_1 => ∃ v w1, o_1 = (v, w1, 0, 0) ∧ ty_w sp_ G w1 ∧ (F9 G F) w1 ∧ ty_same G fz w w1 ∧ ck_res G (some (0, (-2147483648), 2147483647)) v ∧ ck_wit 0 0 [.ref o] v) (40, [some (.ref o), some (.int sz), some (.int nn), some (.int a1), (u4.map Value.int), (u5.map Value.int), (u6.map Value.int), (u7.map Value.int)], [], w1, 0, 0) := by
      intro nq
      induction nq with
      | zero => intro w1 sz nn a1 u4 u5 u6 u7 hw6 hf7 hs8 i2 i3 i4 i5 hm; exact absurd hm (Nat.not_lt_zero _)
      | succ nq ih40 =>
        intro w1 sz nn a1 u4 u5 u6 u7 hw6 hf7 hs8 i2 i3 i4 i5 hm40
        have ct164 : ∀ (w9 : ab_W) (sz2 : Int32) (nn2 : Int32) (a2 : Int32) (b2 : Int32) (t2 : Int32) (o2 : Int32) (is2 : Int32), ty_w sp_ G w9 → (F9 G F) w9 → ty_same G fz w w9 → (sz2.toInt = sz.toInt) → (a2.toInt = a1.toInt) → (a1.toInt + 3 ≤ sz.toInt) → ab_wp ro (ab_Ev ro ab_codes (d + 3)) 9 false (some .int) ab_k_X9_row (fun o_1 => ∃ v w1, o_1 = (v, w1, 0, 0) ∧ ty_w sp_ G w1 ∧ (F9 G F) w1 ∧ ty_same G fz w w1 ∧ ck_res G (some (0, (-2147483648), 2147483647)) v ∧ ck_wit 0 0 [.ref o] v) (164, [some (.ref o), some (.int sz2), some (.int nn2), some (.int a2), some (.int b2), some (.int t2), some (.int o2), some (.int is2)], [], w9, 0, 0) := by
          intro w9 sz2 nn2 a2 b2 t2 o2 is2 hw13 hf14 hs15 i10 i11 i12
          refine ax_go 2 (y := (166, [some (.ref o), some (.int sz2), some (.int nn2), some (.int a2), some (.int b2), some (.int t2), some (.int o2), some (.int is2)], [.ref o, .ref o], w9, 0, 0)) rfl trivial ?_
          obtain ⟨fs16, g17, -, q18⟩ := hx_obj hw13 hG0 (s := 30) rfl (by decide)
          obtain ⟨x19, e20, a21, b22⟩ := hx_fi (k := 6) (lo := (-2147483648)) (hi := 2147483647) q18 rfl
          refine hx_gf (l := 169) rfl rfl rfl g17 e20 ?_
          refine ax_go 1 (y := (171, [some (.ref o), some (.int sz2), some (.int nn2), some (.int a2), some (.int b2), some (.int t2), some (.int o2), some (.int is2)], [.int is2, .int x19, .ref o], w9, 0, 0)) rfl trivial ?_
          refine hx_if_eq (l := 174) rfl rfl (fun h23 => ?_) (fun h23 => ?_)
          · -- 178
            refine hx_k (l := 179) (m := 1) rfl rfl (by decide) (fun z24 h25 => ?_)
            refine hx_add (l := 180) rfl rfl (fun z26 h27 => ?_)
            refine hx_pf (q := (0, 0, 0, 0, (-2147483648), 2147483647)) (s := 30) (l := 183) (v := .int z26) rfl rfl rfl (by decide) rfl rfl rfl hw13 hG0 g17 trivial (ck_top_ok (G := G) z26) (fun w28 fs29 g30 e31 o32 n33 hw34 n35 => ?_)
            have hs36 := ty_same_tr hs15 (n35 fz (hx_ok hfz (by decide)))
            have hf37 := hFF _ _ (n35 pr_ (by decide)) hf14
            refine hx_iinc (x := a2) (n := 3) (l := 186) rfl rfl rfl (Nat.le_of_ble_eq_true rfl) (by omega) (by omega) (by decide) (fun z38 h39 => ?_)
            change ab_wp ro (ab_Ev ro ab_codes (d + 3)) 9 false (some .int) ab_k_X9_row (fun o_1 => ∃ v w1, o_1 = (v, w1, 0, 0) ∧ ty_w sp_ G w1 ∧ (F9 G F) w1 ∧ ty_same G fz w w1 ∧ ck_res G (some (0, (-2147483648), 2147483647)) v ∧ ck_wit 0 0 [.ref o] v) (186, [some (.ref o), some (.int sz2), some (.int nn2), some (.int z38), some (.int b2), some (.int t2), some (.int o2), some (.int is2)], [], w28, 0, 0)
            refine ax_go 1 (y := (40, [some (.ref o), some (.int sz2), some (.int nn2), some (.int z38), some (.int b2), some (.int t2), some (.int o2), some (.int is2)], [], w28, 0, 0)) rfl trivial ?_
            exact ih40 w28 sz2 nn2 z38 (some b2) (some t2) (some o2) (some is2) hw34 hf37 hs36 (by omega) (by omega) (by omega) (by omega) (by omega)
          · -- 174
            refine hx_k (l := 175) (m := 0) rfl rfl (by decide) (fun z40 h41 => ?_)
            refine ax_go 1 (y := (179, [some (.ref o), some (.int sz2), some (.int nn2), some (.int a2), some (.int b2), some (.int t2), some (.int o2), some (.int is2)], [.int z40, .int x19, .ref o], w9, 0, 0)) rfl trivial ?_
            refine hx_add (l := 180) rfl rfl (fun z42 h43 => ?_)
            refine hx_pf (q := (0, 0, 0, 0, (-2147483648), 2147483647)) (s := 30) (l := 183) (v := .int z42) rfl rfl rfl (by decide) rfl rfl rfl hw13 hG0 g17 trivial (ck_top_ok (G := G) z42) (fun w44 fs45 g46 e47 o48 n49 hw50 n51 => ?_)
            have hs52 := ty_same_tr hs15 (n51 fz (hx_ok hfz (by decide)))
            have hf53 := hFF _ _ (n51 pr_ (by decide)) hf14
            refine hx_iinc (x := a2) (n := 3) (l := 186) rfl rfl rfl (Nat.le_of_ble_eq_true rfl) (by omega) (by omega) (by decide) (fun z54 h55 => ?_)
            change ab_wp ro (ab_Ev ro ab_codes (d + 3)) 9 false (some .int) ab_k_X9_row (fun o_1 => ∃ v w1, o_1 = (v, w1, 0, 0) ∧ ty_w sp_ G w1 ∧ (F9 G F) w1 ∧ ty_same G fz w w1 ∧ ck_res G (some (0, (-2147483648), 2147483647)) v ∧ ck_wit 0 0 [.ref o] v) (186, [some (.ref o), some (.int sz2), some (.int nn2), some (.int z54), some (.int b2), some (.int t2), some (.int o2), some (.int is2)], [], w44, 0, 0)
            refine ax_go 1 (y := (40, [some (.ref o), some (.int sz2), some (.int nn2), some (.int z54), some (.int b2), some (.int t2), some (.int o2), some (.int is2)], [], w44, 0, 0)) rfl trivial ?_
            exact ih40 w44 sz2 nn2 z54 (some b2) (some t2) (some o2) (some is2) hw50 hf53 hs52 (by omega) (by omega) (by omega) (by omega) (by omega)
        refine ax_go 1 (y := (41, [some (.ref o), some (.int sz), some (.int nn), some (.int a1), (u4.map Value.int), (u5.map Value.int), (u6.map Value.int), (u7.map Value.int)], [.int a1], w1, 0, 0)) rfl trivial ?_
        refine hx_k (l := 42) (m := 3) rfl rfl (by decide) (fun z56 h57 => ?_)
        refine hx_add (l := 43) rfl rfl (fun z58 h59 => ?_)
        replace h59 := h59 (by omega) (by omega)
        refine ax_go 1 (y := (44, [some (.ref o), some (.int sz), some (.int nn), some (.int a1), (u4.map Value.int), (u5.map Value.int), (u6.map Value.int), (u7.map Value.int)], [.int sz, .int z58], w1, 0, 0)) rfl trivial ?_
        refine hx_ic_gt (l := 47) rfl rfl (fun h60 => ?_) (fun h60 => ?_)
        · -- 189
          refine ax_go 2 (y := (191, [some (.ref o), some (.int sz), some (.int nn), some (.int a1), (u4.map Value.int), (u5.map Value.int), (u6.map Value.int), (u7.map Value.int)], [.int nn, .ref o], w1, 0, 0)) rfl trivial ?_
          obtain ⟨fs61, g62, -, q63⟩ := hx_obj hw6 hG0 (s := 30) rfl (by decide)
          refine hx_ci (l := 194) (as := [.ref o, .int nn]) rfl rfl (hx_iv (j := 126) (n := 1) (o := o) (r := []) rfl rfl g62 rfl) (h_X9_settled (fz := fz) hF (fun q hq => (by decide +kernel : ∀ q ∈ fb_X9_row, q ∈ fb_X9_settled) q (hfz q hq)) (d + 1)) hw6 hf7 ⟨(hx_tr (G := G) (s := 30) (b := 0) hG0 (by decide)), (ck_top_ok (G := G) nn), trivial⟩ (fun w64 z69 hw65 hf66 m67 a70 b71 u72 => ?_)
          have hs68 := ty_same_tr hs8 m67
          exact ax_ret rfl rfl trivial ⟨some (.int z69), _, rfl, hw65, hf66, hs68, (ck_top_ok (G := G) z69), trivial⟩
        · -- 47
          refine ax_go 1 (y := (48, [some (.ref o), some (.int sz), some (.int nn), some (.int a1), (u4.map Value.int), (u5.map Value.int), (u6.map Value.int), (u7.map Value.int)], [.ref o], w1, 0, 0)) rfl trivial ?_
          obtain ⟨fs73, g74, -, q75⟩ := hx_obj hw6 hG0 (s := 30) rfl (by decide)
          obtain ⟨p76, e77, hG78⟩ := hx_fr (k := 11) (s := 37) q75 rfl
          refine hx_gf (l := 51) rfl rfl rfl g74 e77 ?_
          refine ax_go 1 (y := (52, [some (.ref o), some (.int sz), some (.int nn), some (.int a1), (u4.map Value.int), (u5.map Value.int), (u6.map Value.int), (u7.map Value.int)], [.int a1, .ref p76], w1, 0, 0)) rfl trivial ?_
          obtain ⟨f79, g80, r81⟩ := hx_row hw6 hG78 (s := 37) (kd := 1) (n := 400) rfl (by decide)
          refine hx_bl (l := 53) rfl rfl g80 (by decide) (by omega) (by omega) (fun z82 h83 => ?_)
          refine hx_k (l := 56) (m := 255) rfl rfl (by decide) (fun z84 h85 => ?_)
          refine hx_and (l := 57) (m := 255) rfl rfl (by omega) (by decide) (fun z86 h87 h88 => ?_)
          refine hx_k (l := 58) (m := 1) rfl rfl (by decide) (fun z89 h90 => ?_)
          refine hx_sub (l := 59) rfl rfl (fun z91 h92 => ?_)
          replace h92 := h92 (by omega) (by omega)
          refine ax_go 2 (y := (62, [some (.ref o), some (.int sz), some (.int nn), some (.int a1), some (.int z91), (u5.map Value.int), (u6.map Value.int), (u7.map Value.int)], [.ref o], w1, 0, 0)) rfl trivial ?_
          refine hx_gf (l := 65) rfl rfl rfl g74 e77 ?_
          refine ax_go 1 (y := (66, [some (.ref o), some (.int sz), some (.int nn), some (.int a1), some (.int z91), (u5.map Value.int), (u6.map Value.int), (u7.map Value.int)], [.int a1, .ref p76], w1, 0, 0)) rfl trivial ?_
          refine hx_k (l := 67) (m := 1) rfl rfl (by decide) (fun z93 h94 => ?_)
          refine hx_add (l := 68) rfl rfl (fun z95 h96 => ?_)
          replace h96 := h96 (by omega) (by omega)
          refine hx_bl (l := 69) rfl rfl g80 (by decide) (by omega) (by omega) (fun z97 h98 => ?_)
          refine hx_k (l := 72) (m := 255) rfl rfl (by decide) (fun z99 h100 => ?_)
          refine hx_and (l := 73) (m := 255) rfl rfl (by omega) (by decide) (fun z101 h102 h103 => ?_)
          refine ax_go 2 (y := (76, [some (.ref o), some (.int sz), some (.int nn), some (.int a1), some (.int z91), some (.int z101), (u6.map Value.int), (u7.map Value.int)], [.ref o], w1, 0, 0)) rfl trivial ?_
          refine hx_gf (l := 79) rfl rfl rfl g74 e77 ?_
          refine ax_go 1 (y := (80, [some (.ref o), some (.int sz), some (.int nn), some (.int a1), some (.int z91), some (.int z101), (u6.map Value.int), (u7.map Value.int)], [.int a1, .ref p76], w1, 0, 0)) rfl trivial ?_
          refine hx_k (l := 81) (m := 2) rfl rfl (by decide) (fun z104 h105 => ?_)
          refine hx_add (l := 82) rfl rfl (fun z106 h107 => ?_)
          replace h107 := h107 (by omega) (by omega)
          refine hx_bl (l := 83) rfl rfl g80 (by decide) (by omega) (by omega) (fun z108 h109 => ?_)
          refine hx_k (l := 86) (m := 255) rfl rfl (by decide) (fun z110 h111 => ?_)
          refine hx_and (l := 87) (m := 255) rfl rfl (by omega) (by decide) (fun z112 h113 h114 => ?_)
          refine ax_go 2 (y := (90, [some (.ref o), some (.int sz), some (.int nn), some (.int a1), some (.int z91), some (.int z101), some (.int z112), (u7.map Value.int)], [.ref o], w1, 0, 0)) rfl trivial ?_
          obtain ⟨p115, e116, hG117⟩ := hx_fr (k := 2) (s := 32) q75 rfl
          refine hx_gf (l := 93) rfl rfl rfl g74 e116 ?_
          refine hx_k (l := 95) (m := 110) rfl rfl (by decide) (fun z118 h119 => ?_)
          obtain ⟨f120, g121, r122⟩ := hx_row hw6 hG117 (s := 32) (kd := 0) (n := 5721) rfl (by decide)
          refine hx_il (l := 96) rfl rfl g121 (by omega) (by omega) (fun z123 h124 => ?_)
          have b125 := ((hf7.1.1 _ _ hG117 g121).1 z118.toInt.toNat (by omega)).2.2.2.2.1 (by omega)
          rw [← h124] at b125
          rw [show z118.toInt.toNat = 110 by omega] at h124
          replace h124 := congrArg Int32.toInt h124
          refine hx_k (l := 98) (m := 10) rfl rfl (by decide) (fun z126 h127 => ?_)
          refine hx_ic_ge (l := 101) rfl rfl (fun h128 => ?_) (fun h128 => ?_)
          · -- 129
            refine hx_k (l := 130) (m := 0) rfl rfl (by decide) (fun z129 h130 => ?_)
            refine ax_go 2 (y := (134, [some (.ref o), some (.int sz), some (.int nn), some (.int a1), some (.int z91), some (.int z101), some (.int z112), some (.int z129)], [.int z129], w1, 0, 0)) rfl trivial ?_
            refine hx_if_eq (l := 137) rfl rfl (fun h131 => ?_) (fun h131 => by omega)
            refine ax_go 2 (y := (154, [some (.ref o), some (.int sz), some (.int nn), some (.int a1), some (.int z91), some (.int z101), some (.int z112), some (.int z129)], [.int z129, .int nn], w1, 0, 0)) rfl trivial ?_
            refine hx_if_eq (l := 157) rfl rfl (fun h132 => ?_) (fun h132 => by omega)
            refine hx_k (l := 162) (m := 0) rfl rfl (by decide) (fun z133 h134 => ?_)
            refine hx_add (l := 163) rfl rfl (fun z135 h136 => ?_)
            refine ax_go 1 (y := (164, [some (.ref o), some (.int sz), some (.int z135), some (.int a1), some (.int z91), some (.int z101), some (.int z112), some (.int z129)], [], w1, 0, 0)) rfl trivial ?_
            exact ct164 w1 sz z135 a1 z91 z101 z112 z129 hw6 hf7 hs8 (by omega) (by omega) (by omega)
          · -- 101
            refine ax_go 1 (y := (103, [some (.ref o), some (.int sz), some (.int nn), some (.int a1), some (.int z91), some (.int z101), some (.int z112), (u7.map Value.int)], [.int z112], w1, 0, 0)) rfl trivial ?_
            refine hx_k (l := 105) (m := 10) rfl rfl (by decide) (fun z137 h138 => ?_)
            refine hx_ic_ge (l := 108) rfl rfl (fun h139 => ?_) (fun h139 => ?_)
            · -- 129
              refine hx_k (l := 130) (m := 0) rfl rfl (by decide) (fun z140 h141 => ?_)
              refine ax_go 2 (y := (134, [some (.ref o), some (.int sz), some (.int nn), some (.int a1), some (.int z91), some (.int z101), some (.int z112), some (.int z140)], [.int z140], w1, 0, 0)) rfl trivial ?_
              refine hx_if_eq (l := 137) rfl rfl (fun h142 => ?_) (fun h142 => by omega)
              refine ax_go 2 (y := (154, [some (.ref o), some (.int sz), some (.int nn), some (.int a1), some (.int z91), some (.int z101), some (.int z112), some (.int z140)], [.int z140, .int nn], w1, 0, 0)) rfl trivial ?_
              refine hx_if_eq (l := 157) rfl rfl (fun h143 => ?_) (fun h143 => by omega)
              refine hx_k (l := 162) (m := 0) rfl rfl (by decide) (fun z144 h145 => ?_)
              refine hx_add (l := 163) rfl rfl (fun z146 h147 => ?_)
              refine ax_go 1 (y := (164, [some (.ref o), some (.int sz), some (.int z146), some (.int a1), some (.int z91), some (.int z101), some (.int z112), some (.int z140)], [], w1, 0, 0)) rfl trivial ?_
              exact ct164 w1 sz z146 a1 z91 z101 z112 z140 hw6 hf7 hs8 (by omega) (by omega) (by omega)
            · -- 108
              refine ax_go 2 (y := (111, [some (.ref o), some (.int sz), some (.int nn), some (.int a1), some (.int z91), some (.int z101), some (.int z112), (u7.map Value.int)], [.int z91, .ref o], w1, 0, 0)) rfl trivial ?_
              refine hx_k (l := 113) (m := 10) rfl rfl (by decide) (fun z148 h149 => ?_)
              refine ax_go 1 (y := (115, [some (.ref o), some (.int sz), some (.int nn), some (.int a1), some (.int z91), some (.int z101), some (.int z112), (u7.map Value.int)], [.int z101, .int z148, .int z91, .ref o], w1, 0, 0)) rfl trivial ?_
              refine hx_mul (l := 116) rfl rfl (fun z150 h151 => ?_)
              rw [h149] at h151
              replace h151 := h151 (by omega) (by omega)
              refine ax_go 1 (y := (118, [some (.ref o), some (.int sz), some (.int nn), some (.int a1), some (.int z91), some (.int z101), some (.int z112), (u7.map Value.int)], [.int z112, .int z150, .int z91, .ref o], w1, 0, 0)) rfl trivial ?_
              refine hx_add (l := 119) rfl rfl (fun z152 h153 => ?_)
              replace h153 := h153 (by omega) (by omega)
              refine hx_pi (l := 122) (as := [.ref o, .int z91, .int z152]) rfl rfl (hx_iv (j := 134) (n := 2) (o := o) (r := []) rfl rfl g74 rfl) (hp_X9_canParish (fz := fz) hF (fun q hq => (by decide +kernel : ∀ q ∈ fb_X9_row, q ∈ fb_hp_X9_canParish) q (hfz q hq)) (d + 1)) hw6 hf7 ⟨(hx_tr (G := G) (s := 30) (b := 0) hG0 (by decide)), (ck_top_ok (G := G) z91), (ck_top_ok (G := G) z152), trivial⟩ trivial (fun w154 z159 hw155 hf156 m157 a160 b161 u162 => ?_)
              rw [u162.1]
              have u163 := u162.2 _ _ _ _ _ _ rfl ⟨_, g74, e116⟩ g121 rfl
              clear u162
              refine hx_if_eq (l := 125) rfl rfl (fun h164 => ?_) (fun h164 => ?_)
              · -- 129
                clear u163
                refine hx_k (l := 130) (m := 0) rfl rfl (by decide) (fun z165 h166 => ?_)
                refine ax_go 2 (y := (134, [some (.ref o), some (.int sz), some (.int nn), some (.int a1), some (.int z91), some (.int z101), some (.int z112), some (.int z165)], [.int z165], w1, 0, 0)) rfl trivial ?_
                refine hx_if_eq (l := 137) rfl rfl (fun h167 => ?_) (fun h167 => by omega)
                refine ax_go 2 (y := (154, [some (.ref o), some (.int sz), some (.int nn), some (.int a1), some (.int z91), some (.int z101), some (.int z112), some (.int z165)], [.int z165, .int nn], w1, 0, 0)) rfl trivial ?_
                refine hx_if_eq (l := 157) rfl rfl (fun h168 => ?_) (fun h168 => by omega)
                refine hx_k (l := 162) (m := 0) rfl rfl (by decide) (fun z169 h170 => ?_)
                refine hx_add (l := 163) rfl rfl (fun z171 h172 => ?_)
                refine ax_go 1 (y := (164, [some (.ref o), some (.int sz), some (.int z171), some (.int a1), some (.int z91), some (.int z101), some (.int z112), some (.int z165)], [], w1, 0, 0)) rfl trivial ?_
                exact ct164 w1 sz z171 a1 z91 z101 z112 z165 hw6 hf7 hs8 (by omega) (by omega) (by omega)
              · -- 125
                replace u163 := u163.1 (by omega)
                refine hx_k (l := 126) (m := 1) rfl rfl (by decide) (fun z173 h174 => ?_)
                refine ax_go 3 (y := (134, [some (.ref o), some (.int sz), some (.int nn), some (.int a1), some (.int z91), some (.int z101), some (.int z112), some (.int z173)], [.int z173], w1, 0, 0)) rfl trivial ?_
                refine hx_if_eq (l := 137) rfl rfl (fun h175 => by omega) (fun h175 => ?_)
                refine ax_go 2 (y := (140, [some (.ref o), some (.int sz), some (.int nn), some (.int a1), some (.int z91), some (.int z101), some (.int z112), some (.int z173)], [.int z91, .ref o], w1, 0, 0)) rfl trivial ?_
                refine hx_k (l := 142) (m := 10) rfl rfl (by decide) (fun z176 h177 => ?_)
                refine ax_go 1 (y := (144, [some (.ref o), some (.int sz), some (.int nn), some (.int a1), some (.int z91), some (.int z101), some (.int z112), some (.int z173)], [.int z101, .int z176, .int z91, .ref o], w1, 0, 0)) rfl trivial ?_
                refine hx_mul (l := 145) rfl rfl (fun z178 h179 => ?_)
                rw [h177] at h179
                replace h179 := h179 (by omega) (by omega)
                refine ax_go 1 (y := (147, [some (.ref o), some (.int sz), some (.int nn), some (.int a1), some (.int z91), some (.int z101), some (.int z112), some (.int z173)], [.int z112, .int z178, .int z91, .ref o], w1, 0, 0)) rfl trivial ?_
                refine hx_add (l := 148) rfl rfl (fun z180 h181 => ?_)
                replace h181 := h181 (by omega) (by omega)
                refine hx_p0 (l := 151) (as := [.ref o, .int z91, .int z180]) rfl rfl (hx_iv (j := 135) (n := 2) (o := o) (r := []) rfl rfl g74 rfl) (hp_X9_addsParish (fz := fz) hF (fun q hq => (by decide +kernel : ∀ q ∈ fb_X9_row, q ∈ fb_hp_X9_addsParish) q (hfz q hq)) (d + 2)) hw6 hf7 ⟨(hx_tr (G := G) (s := 30) (b := 0) hG0 (by decide)), (ck_top_ok (G := G) z91), (ck_top_ok (G := G) z180), trivial⟩ (fun y0 y1 y2 pk1 f1 h1 h2 h3 => by cases h1; obtain ⟨fs1, g1, e1⟩ := h2; obtain rfl := hx_inj g74 g1; cases e116.symm.trans e1; obtain rfl := hx_injr g121 h3; exact ⟨by omega, by omega, by omega, by omega, by omega⟩) (fun w182 hw183 hf184 m185 u190 => ?_)
                have hs186 := ty_same_tr hs8 m185
                refine ax_go 2 (y := (154, [some (.ref o), some (.int sz), some (.int nn), some (.int a1), some (.int z91), some (.int z101), some (.int z112), some (.int z173)], [.int z173, .int nn], w182, 0, 0)) rfl trivial ?_
                refine hx_if_eq (l := 157) rfl rfl (fun h191 => by omega) (fun h191 => ?_)
                refine hx_k (l := 158) (m := 1) rfl rfl (by decide) (fun z192 h193 => ?_)
                refine ax_go 1 (y := (162, [some (.ref o), some (.int sz), some (.int nn), some (.int a1), some (.int z91), some (.int z101), some (.int z112), some (.int z173)], [.int z192, .int nn], w182, 0, 0)) rfl trivial ?_
                refine hx_add (l := 163) rfl rfl (fun z194 h195 => ?_)
                refine ax_go 1 (y := (164, [some (.ref o), some (.int sz), some (.int z194), some (.int a1), some (.int z91), some (.int z101), some (.int z112), some (.int z173)], [], w182, 0, 0)) rfl trivial ?_
                exact ct164 w182 sz z194 a1 z91 z101 z112 z173 hw183 hf184 hs186 (by omega) (by omega) (by omega)
    change ab_wp ro (ab_Ev ro ab_codes (d + 3)) 9 false (some .int) ab_k_X9_row (fun o_1 => ∃ v w1, o_1 = (v, w1, 0, 0) ∧ ty_w sp_ G w1 ∧ (F9 G F) w1 ∧ ty_same G fz w w1 ∧ ck_res G (some (0, (-2147483648), 2147483647)) v ∧ ck_wit 0 0 [.ref o] v) (0, [some (.ref o), none, none, none, none, none, none, none], [], w, 0, 0)
    refine ax_go 1 (y := (1, [some (.ref o), none, none, none, none, none, none, none], [.ref o], w, 0, 0)) rfl trivial ?_
    obtain ⟨fs196, g197, -, q198⟩ := hx_obj hw hG0 (s := 30) rfl (by decide)
    obtain ⟨x199, e200, a201, b202⟩ := hx_fi (k := 13) (lo := 0) (hi := 400) q198 rfl
    refine hx_gf (l := 4) rfl rfl rfl g197 e200 ?_
    refine ax_go 2 (y := (6, [some (.ref o), some (.int x199), none, none, none, none, none, none], [.ref o], w, 0, 0)) rfl trivial ?_
    refine hx_k (l := 7) (m := 0) rfl rfl (by decide) (fun z203 h204 => ?_)
    refine hx_pf (q := (0, 0, 0, 0, 0, 400)) (s := 30) (l := 10) (v := .int z203) rfl rfl rfl (by decide) rfl rfl rfl hw hG0 g197 trivial (hx_ti (G := G) (lo := 0) (hi := 400) (by omega) (by omega)) (fun w205 fs206 g207 e208 o209 n210 hw211 n212 => ?_)
    have hs213 := ty_same_tr (ty_same_rf w) (n212 fz (hx_ok hfz (by decide)))
    have hf214 := hFF _ _ (n212 pr_ (by decide)) hf
    refine ax_go 1 (y := (11, [some (.ref o), some (.int x199), none, none, none, none, none, none], [.int x199], w205, 0, 0)) rfl trivial ?_
    refine hx_if_ne (l := 14) rfl rfl (fun h215 => ?_) (fun h215 => ?_)
    · -- 21
      refine hx_k (l := 22) (m := 0) rfl rfl (by decide) (fun z216 h217 => ?_)
      refine ax_go 3 (y := (25, [some (.ref o), some (.int x199), some (.int z216), none, none, none, none, none], [.int x199, .ref o], w205, 0, 0)) rfl trivial ?_
      refine hx_k (l := 26) (m := 3) rfl rfl (by decide) (fun z218 h219 => ?_)
      refine hx_rem (l := 27) rfl rfl (by omega) (by omega) (fun z220 a221 b222 c223 d224 => ?_)
      refine hx_if_ne (l := 30) rfl rfl (fun h225 => ?_) (fun h225 => ?_)
      · -- 34
        refine hx_k (l := 35) (m := 1) rfl rfl (by decide) (fun z226 h227 => ?_)
        refine hx_pf (q := (0, 0, 0, 0, (-2147483648), 2147483647)) (s := 30) (l := 38) (v := .int z226) rfl rfl rfl (by decide) rfl rfl rfl hw211 hG0 g207 trivial (ck_top_ok (G := G) z226) (fun w228 fs229 g230 e231 o232 n233 hw234 n235 => ?_)
        have hs236 := ty_same_tr hs213 (n235 fz (hx_ok hfz (by decide)))
        have hf237 := hFF _ _ (n235 pr_ (by decide)) hf214
        refine hx_k (l := 39) (m := 0) rfl rfl (by decide) (fun z238 h239 => ?_)
        refine ax_go 1 (y := (40, [some (.ref o), some (.int x199), some (.int z216), some (.int z238), none, none, none, none], [], w228, 0, 0)) rfl trivial ?_
        exact ct40 _ w228 x199 z216 z238 none none none none hw234 hf237 hs236 (by omega) (by omega) (by omega) (by omega) (Nat.lt_succ_self _)
      · -- 30
        refine hx_k (l := 31) (m := 0) rfl rfl (by decide) (fun z240 h241 => ?_)
        refine ax_go 1 (y := (35, [some (.ref o), some (.int x199), some (.int z216), none, none, none, none, none], [.int z240, .ref o], w205, 0, 0)) rfl trivial ?_
        refine hx_pf (q := (0, 0, 0, 0, (-2147483648), 2147483647)) (s := 30) (l := 38) (v := .int z240) rfl rfl rfl (by decide) rfl rfl rfl hw211 hG0 g207 trivial (ck_top_ok (G := G) z240) (fun w242 fs243 g244 e245 o246 n247 hw248 n249 => ?_)
        have hs250 := ty_same_tr hs213 (n249 fz (hx_ok hfz (by decide)))
        have hf251 := hFF _ _ (n249 pr_ (by decide)) hf214
        refine hx_k (l := 39) (m := 0) rfl rfl (by decide) (fun z252 h253 => ?_)
        refine ax_go 1 (y := (40, [some (.ref o), some (.int x199), some (.int z216), some (.int z252), none, none, none, none], [], w242, 0, 0)) rfl trivial ?_
        exact ct40 _ w242 x199 z216 z252 none none none none hw248 hf251 hs250 (by omega) (by omega) (by omega) (by omega) (Nat.lt_succ_self _)
    · -- 14
      refine ax_go 1 (y := (15, [some (.ref o), some (.int x199), none, none, none, none, none, none], [.ref o], w205, 0, 0)) rfl trivial ?_
      refine hx_k (l := 17) (m := (-6)) rfl rfl (by decide) (fun z254 h255 => ?_)
      refine hx_ci (l := 20) (as := [.ref o, .int z254]) rfl rfl (hx_iv (j := 124) (n := 1) (o := o) (r := []) rfl rfl g207 rfl) (cc_X9_refuses_0 (fz := fz) hFF  (fun q hq => (by decide +kernel : ∀ q ∈ fb_X9_row, q ∈ fr_X9_refuses_0) q (hfz q hq)) (d + 2)) hw211 hf214 ⟨(hx_tr (G := G) (s := 30) (b := 0) hG0 (by decide)), (hx_ti (G := G) (lo := (-6)) (hi := (-1)) (by omega) (by omega)), trivial⟩ (fun w256 z261 hw257 hf258 m259 a262 b263 u264 => ?_)
      have hs260 := ty_same_tr hs213 m259
      exact ax_ret rfl rfl trivial ⟨some (.int z261), _, rfl, hw257, hf258, hs260, (ck_top_ok (G := G) z261), trivial⟩
