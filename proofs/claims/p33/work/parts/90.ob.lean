/-! walks by program: orders -/
def fb_hp_X9_runs : List (Nat × Nat) := [(8, 3), (8, 5), (19, 999), (33, 999), (34, 999), (35, 999), (45, 999), (1, 0), (18, 999), (2, 11), (2, 14), (1, 15), (54, 11), (4, 2), (7, 9), (30, 13), (30, 2), (46, 999), (47, 999), (30, 35), (30, 36), (7, 0), (24, 999), (37, 999), (30, 4), (30, 5), (30, 6), (30, 8), (30, 9), (30, 10), (30, 11), (30, 14), (30, 15), (30, 16), (30, 17), (30, 18), (30, 19), (30, 20), (30, 21), (39, 999), (40, 999), (41, 999), (30, 30), (1, 1), (1, 3), (1, 10), (1, 13), (8, 0), (30, 49), (2, 15), (8, 1)]
set_option maxHeartbeats 8000000 in
theorem hp_X9_runs {ro : ab_R} {G : Nat → Nat} {fz : List (Nat × Nat)} {F : ab_W → Prop} (hF : ∀ w w', ty_same G prM w w' → F w → F w') {pk : Nat} {f0 : Nat → Int32} (hGk : G pk = 32) {a : Int32} {fn q : Nat} (hfz : ∀ q ∈ fz, q ∈ fb_hp_X9_runs) (d : Nat) : hx_ct ro sp_ G (F9 G (FX pk f0 F)) fz (ab_Ev ro ab_codes (d + 100)) 233 [(2, 30, 0), (0, 0, 2800)] (some (0, 0, 1)) (fun as w => ∀ (o : Nat) (e : Int32), as = [.ref o, .int e] → 0 ≤ a.toInt ∧ a.toInt < e.toInt ∧ gor (cf f0) e.toInt.toNat fn a.toInt.toNat = some q ∧ hx_has w o 9 2 (.ref pk) ∧ hx_has w o 9 42 (.int a)) (fun as _ v w1 => ∀ (o : Nat) (e z : Int32), as = [.ref o, .int e] → v = some (.int z) → z.toInt ≠ 0 → ∃ g : Int32, hx_has w1 o 9 42 (.int g) ∧ g.toInt = (q : Int) + 1) := by
  have hFX := FX_same (f0 := f0) hGk hF
  have hFF := F9_same hFX
  refine hx_hand (d := d + 99) (by decide) (fun as w hw hf has hP => ?_)
  match as, has with
  | [v0, v1], ⟨h0, h1, _⟩ =>
    obtain ⟨o, rfl, _, hG0⟩ := ty_refn h0 rfl rfl
    replace hG0 : G o = 30 := hG0
    obtain ⟨e, rfl, hl1, hh1⟩ := ty_int h1 rfl
    replace hl1 : (0 : Int) ≤ e.toInt := hl1
    replace hh1 : e.toInt ≤ 2800 := hh1
    refine ⟨rfl, ?_⟩
    obtain ⟨ha0, ha1, hgo, ⟨fs0, g0, i2⟩, ⟨fs1, g1, i42⟩⟩ := hP o e rfl
    obtain rfl := hx_inj g0 g1
    have ct19 : ∀ (nq : Nat) (w1 : ab_W) (ti : Int32) (bh : Int32) (kk : Int32), ty_w sp_ G w1 → (F9 G (FX pk f0 F)) w1 → ty_same G fz w w1 → (hx_has w1 o 9 2 (.ref pk)) → (hx_has w1 o 9 42 (.int a)) → (bh.toInt = (q : Int) + 1) → (0 ≤ kk.toInt) → (2147483648 - kk.toInt).toNat < nq → ab_wp ro (ab_Ev ro ab_codes (d + 99)) 9 false (some .boolean) ab_k_X9_runs (fun o_1 => ∃ v w1, o_1 = (v, w1, 0, 0) ∧ ty_w sp_ G w1 ∧ (F9 G (FX pk f0 F)) w1 ∧ ty_same G fz w w1 ∧ ck_res G (some (0, 0, 1)) v ∧ (fun as _ v w1 => ∀ (o : Nat) (e z : Int32), as = [.ref o, .int e] → v = some (.int z) → z.toInt ≠ 0 → ∃ g : Int32, hx_has w1 o 9 42 (.int g) ∧ g.toInt = (q : Int) + 1) ([.ref o, .int e] : List Value) w v w1) (19, [some (.ref o), some (.int e), some (.int ti), some (.int bh), some (.int kk)], [], w1, 0, 0) := by
      intro nq
      induction nq with
      | zero => intro w1 ti bh kk hw6 hf7 hs8 hh2 hh3 i4 i5 hm; exact absurd hm (Nat.not_lt_zero _)
      | succ nq ih19 =>
        intro w1 ti bh kk hw6 hf7 hs8 hh2 hh3 i4 i5 hm19
        obtain ⟨fs9, g10, e11⟩ := hh2
        obtain ⟨fs12, g13, e14⟩ := hh3
        obtain rfl : fs9 = fs12 := hx_inj g10 g13
        have hti := ck_i32 ti
        have ct67 : ∀ (w15 : ab_W) (ti7 : Int32) (bh7 : Int32) (kk7 : Int32), ty_w sp_ G w15 → (F9 G (FX pk f0 F)) w15 → ty_same G fz w w15 → (hx_has w15 o 9 2 (.ref pk)) → (hx_has w15 o 9 42 (.int a)) → (bh7.toInt = (q : Int) + 1) → (kk7.toInt = kk.toInt) → (kk.toInt < ti.toInt) → ab_wp ro (ab_Ev ro ab_codes (d + 99)) 9 false (some .boolean) ab_k_X9_runs (fun o_1 => ∃ v w1, o_1 = (v, w1, 0, 0) ∧ ty_w sp_ G w1 ∧ (F9 G (FX pk f0 F)) w1 ∧ ty_same G fz w w1 ∧ ck_res G (some (0, 0, 1)) v ∧ (fun as _ v w1 => ∀ (o : Nat) (e z : Int32), as = [.ref o, .int e] → v = some (.int z) → z.toInt ≠ 0 → ∃ g : Int32, hx_has w1 o 9 42 (.int g) ∧ g.toInt = (q : Int) + 1) ([.ref o, .int e] : List Value) w v w1) (67, [some (.ref o), some (.int e), some (.int ti7), some (.int bh7), some (.int kk7)], [], w15, 0, 0) := by
          intro w15 ti7 bh7 kk7 hw21 hf22 hs23 hh16 hh17 i18 i19 i20
          obtain ⟨fs24, g25, e26⟩ := hh16
          obtain ⟨fs27, g28, e29⟩ := hh17
          obtain rfl : fs24 = fs27 := hx_inj g25 g28
          refine hx_iinc (x := kk7) (n := 1) (l := 70) rfl rfl rfl (Nat.le_of_ble_eq_true rfl) (by omega) (by omega) (by decide) (fun z30 h31 => ?_)
          change ab_wp ro (ab_Ev ro ab_codes (d + 99)) 9 false (some .boolean) ab_k_X9_runs (fun o_1 => ∃ v w1, o_1 = (v, w1, 0, 0) ∧ ty_w sp_ G w1 ∧ (F9 G (FX pk f0 F)) w1 ∧ ty_same G fz w w1 ∧ ck_res G (some (0, 0, 1)) v ∧ (fun as _ v w1 => ∀ (o : Nat) (e z : Int32), as = [.ref o, .int e] → v = some (.int z) → z.toInt ≠ 0 → ∃ g : Int32, hx_has w1 o 9 42 (.int g) ∧ g.toInt = (q : Int) + 1) ([.ref o, .int e] : List Value) w v w1) (70, [some (.ref o), some (.int e), some (.int ti7), some (.int bh7), some (.int z30)], [], w15, 0, 0)
          refine ax_go 1 (y := (19, [some (.ref o), some (.int e), some (.int ti7), some (.int bh7), some (.int z30)], [], w15, 0, 0)) rfl trivial ?_
          exact ih19 w15 ti7 bh7 z30 hw21 hf22 hs23 ⟨_, g25, e26⟩ ⟨_, g25, e29⟩ (by omega) (by omega) (by omega)
        refine ax_go 2 (y := (22, [some (.ref o), some (.int e), some (.int ti), some (.int bh), some (.int kk)], [.int ti, .int kk], w1, 0, 0)) rfl trivial ?_
        refine hx_ic_ge (l := 25) rfl rfl (fun h32 => ?_) (fun h32 => ?_)
        · -- 73
          refine ax_go 2 (y := (75, [some (.ref o), some (.int e), some (.int ti), some (.int bh), some (.int kk)], [.int bh, .ref o], w1, 0, 0)) rfl trivial ?_
          refine hx_pf (q := (0, 0, 0, 0, (-2147483648), 2147483647)) (s := 30) (l := 78) (v := .int bh) rfl rfl rfl (by decide) rfl rfl rfl hw6 hG0 g10 trivial (ck_top_ok (G := G) bh) (fun w33 fs34 g35 e36 o37 n38 hw39 n40 => ?_)
          have hs41 := ty_same_tr hs8 (n40 fz (hx_ok hfz (by decide)))
          have hf42 := hFF _ _ (n40 pr_ (by decide)) hf7
          refine hx_k (l := 79) (m := 1) rfl rfl (by decide) (fun z43 h44 => ?_)
          exact ax_ret rfl rfl ⟨hx_01 (by omega) (by omega), trivial⟩ ⟨some (.int z43), _, rfl, hw39, hf42, hs41, (hx_ti (G := G) (lo := 0) (hi := 1) (by omega) (by omega)), (fun o1 e1 z1 h1 h2 hz => by cases h1; cases h2; exact ⟨bh, ⟨_, g35, e36⟩, by omega⟩)⟩
        · -- 25
          refine ax_go 2 (y := (27, [some (.ref o), some (.int e), some (.int ti), some (.int bh), some (.int kk)], [.int e, .ref o], w1, 0, 0)) rfl trivial ?_
          refine hx_k (l := 28) (m := 1) rfl rfl (by decide) (fun z45 h46 => ?_)
          obtain ⟨fr47, kr48, ks49⟩ := hf7.2.1
          refine hx_p0 (l := 31) (as := [.ref o, .int e, .int z45]) rfl rfl (hx_iv (j := 230) (n := 2) (o := o) (r := []) rfl rfl g10 rfl) (hp_X9_goesAlong (fz := ([(30, 42), (30, 2)] ++ fz)) hFX (pk := pk) (f := fr47) (a := a) (fn := fn) (q := q) (hx_app (by decide +kernel) (fun q hq => (by decide +kernel : ∀ q ∈ fb_hp_X9_runs, q ∈ fb_hp_X9_goesAlong) q (hfz q hq))) (d + 33)) hw6 hf7 ⟨(hx_tr (G := G) (s := 30) (b := 0) hG0 (by decide)), (hx_ti (G := G) (lo := 0) (hi := 2800) (by omega) (by omega)), (hx_ti (G := G) (lo := 0) (hi := 1) (by omega) (by omega)), trivial⟩ (fun o1 e1 l1 h1 => by cases h1; exact ⟨ha0, ha1, by rw [gor_fx ks49]; exact hgo, ⟨_, g10, e11⟩, ⟨_, g10, e14⟩, kr48⟩) (fun w50 hw51 hf52 m53 u58 => ?_)
          have hs54 := ty_same_tr hs8 (hx_sapp m53)
          obtain ⟨fs59, g60, -, q61⟩ := hx_obj hw51 hG0 (s := 30) rfl (by decide)
          obtain ⟨gG62, ⟨fsG63, gA64, iA65⟩, hG66⟩ := u58 _ _ _ rfl
          obtain rfl := hx_inj g60 gA64
          refine ax_go 1 (y := (32, [some (.ref o), some (.int e), some (.int ti), some (.int bh), some (.int kk)], [.ref o], w50, 0, 0)) rfl trivial ?_
          obtain ⟨x67, e68, a69, b70⟩ := hx_fi (k := 46) (lo := 0) (hi := 1) q61 rfl
          refine hx_gf (l := 35) rfl rfl rfl g60 e68 ?_
          refine hx_if_ne (l := 38) rfl rfl (fun h71 => ?_) (fun h71 => ?_)
          · -- 41
            refine ax_go 1 (y := (42, [some (.ref o), some (.int e), some (.int ti), some (.int bh), some (.int kk)], [.ref o], w50, 0, 0)) rfl trivial ?_
            obtain ⟨x72, e73, a74, b75⟩ := hx_fi (k := 45) (lo := 0) (hi := 1) q61 rfl
            refine hx_gf (l := 45) rfl rfl rfl g60 e73 ?_
            refine hx_if_eq (l := 48) rfl rfl (fun h76 => ?_) (fun h76 => ?_)
            · -- 55
              refine hx_k (l := 56) (m := 0) rfl rfl (by decide) (fun z77 h78 => ?_)
              exact ax_ret rfl rfl ⟨hx_01 (by omega) (by omega), trivial⟩ ⟨some (.int z77), _, rfl, hw51, hf52, hs54, (hx_ti (G := G) (lo := 0) (hi := 1) (by omega) (by omega)), (fun o1 e1 z1 h1 h2 hz => by cases h1; cases h2; exact absurd hz (by omega))⟩
            · -- 48
              refine ax_go 1 (y := (49, [some (.ref o), some (.int e), some (.int ti), some (.int bh), some (.int kk)], [.ref o], w50, 0, 0)) rfl trivial ?_
              refine hx_ci (l := 52) (as := [.ref o]) rfl rfl (hx_iv (j := 232) (n := 0) (o := o) (r := []) rfl rfl g60 rfl) (h_X9_obeys (fz := ([(30, 42), (30, 2)] ++ fz)) hFX (hx_app (by decide +kernel) (fun q hq => (by decide +kernel : ∀ q ∈ fb_hp_X9_runs, q ∈ fb_X9_obeys) q (hfz q hq))) (d + 1)) hw51 hf52 ⟨(hx_tr (G := G) (s := 30) (b := 0) hG0 (by decide)), trivial⟩ (fun w79 z84 hw80 hf81 m82 a85 b86 u87 => ?_)
              have hs83 := ty_same_tr hs54 (hx_sapp m82)
              obtain ⟨fs88, g89, -, q90⟩ := hx_obj hw80 hG0 (s := 30) rfl (by decide)
              refine hx_if_ge (l := 55) rfl rfl (fun h91 => ?_) (fun h91 => ?_)
              · -- 57
                refine ax_go 2 (y := (59, [some (.ref o), some (.int e), some (.int ti), some (.int bh), some (.int kk)], [.ref o, .ref o], w79, 0, 0)) rfl trivial ?_
                obtain ⟨x92, e93, a94, b95⟩ := hx_fi (k := 27) (lo := (-2147483648)) (hi := 2147483647) q90 rfl
                refine hx_gf (l := 62) rfl rfl rfl g89 e93 ?_
                refine hx_k (l := 63) (m := 1) rfl rfl (by decide) (fun z96 h97 => ?_)
                refine hx_add (l := 64) rfl rfl (fun z98 h99 => ?_)
                refine hx_pf (q := (0, 0, 0, 0, (-2147483648), 2147483647)) (s := 30) (l := 67) (v := .int z98) rfl rfl rfl (by decide) rfl rfl rfl hw80 hG0 g89 trivial (ck_top_ok (G := G) z98) (fun w100 fs101 g102 e103 o104 n105 hw106 n107 => ?_)
                have hs108 := ty_same_tr hs83 (n107 fz (hx_ok hfz (by decide)))
                have hf109 := hFF _ _ (n107 pr_ (by decide)) hf81
                exact ct67 w100 ti bh kk hw106 hf109 hs108 ⟨_, g102, ((o104 2 (by decide)).trans ((hx_kf m82 (hx_mem hG0 (by decide)) g60 g89).trans ((hx_kf m53 (hx_mem hG0 (by decide)) g10 g60).trans e11)))⟩ ⟨_, g102, ((o104 42 (by decide)).trans ((hx_kf m82 (hx_mem hG0 (by decide)) g60 g89).trans ((hx_kf m53 (hx_mem hG0 (by decide)) g10 g60).trans e14)))⟩ (by omega) (by omega) (by omega)
              · -- 55
                refine hx_k (l := 56) (m := 0) rfl rfl (by decide) (fun z110 h111 => ?_)
                exact ax_ret rfl rfl ⟨hx_01 (by omega) (by omega), trivial⟩ ⟨some (.int z110), _, rfl, hw80, hf81, hs83, (hx_ti (G := G) (lo := 0) (hi := 1) (by omega) (by omega)), (fun o1 e1 z1 h1 h2 hz => by cases h1; cases h2; exact absurd hz (by omega))⟩
          · -- 38
            refine ax_go 1 (y := (67, [some (.ref o), some (.int e), some (.int ti), some (.int bh), some (.int kk)], [], w50, 0, 0)) rfl trivial ?_
            exact ct67 w50 ti bh kk hw51 hf52 hs54 ⟨_, g60, ((hx_kf m53 (hx_mem hG0 (by decide)) g10 g60).trans e11)⟩ ⟨_, g60, ((hx_kf m53 (hx_mem hG0 (by decide)) g10 g60).trans e14)⟩ (by omega) (by omega) (by omega)
    change ab_wp ro (ab_Ev ro ab_codes (d + 99)) 9 false (some .boolean) ab_k_X9_runs (fun o_1 => ∃ v w1, o_1 = (v, w1, 0, 0) ∧ ty_w sp_ G w1 ∧ (F9 G (FX pk f0 F)) w1 ∧ ty_same G fz w w1 ∧ ck_res G (some (0, 0, 1)) v ∧ (fun as _ v w1 => ∀ (o : Nat) (e z : Int32), as = [.ref o, .int e] → v = some (.int z) → z.toInt ≠ 0 → ∃ g : Int32, hx_has w1 o 9 42 (.int g) ∧ g.toInt = (q : Int) + 1) ([.ref o, .int e] : List Value) w v w1) (0, [some (.ref o), some (.int e), none, none, none], [], w, 0, 0)
    refine ax_go 2 (y := (2, [some (.ref o), some (.int e), none, none, none], [.int e, .ref o], w, 0, 0)) rfl trivial ?_
    refine hx_k (l := 3) (m := 0) rfl rfl (by decide) (fun z112 h113 => ?_)
    obtain ⟨fr114, kr115, ks116⟩ := hf.2.1
    refine hx_p0 (l := 6) (as := [.ref o, .int e, .int z112]) rfl rfl (hx_iv (j := 230) (n := 2) (o := o) (r := []) rfl rfl g0 rfl) (hp_X9_goesAlong (fz := ([(30, 42), (30, 2)] ++ fz)) hFX (pk := pk) (f := fr114) (a := a) (fn := fn) (q := q) (hx_app (by decide +kernel) (fun q hq => (by decide +kernel : ∀ q ∈ fb_hp_X9_runs, q ∈ fb_hp_X9_goesAlong) q (hfz q hq))) (d + 33)) hw hf ⟨(hx_tr (G := G) (s := 30) (b := 0) hG0 (by decide)), (hx_ti (G := G) (lo := 0) (hi := 2800) (by omega) (by omega)), (hx_ti (G := G) (lo := 0) (hi := 1) (by omega) (by omega)), trivial⟩ (fun o1 e1 l1 h1 => by cases h1; exact ⟨ha0, ha1, by rw [gor_fx ks116]; exact hgo, ⟨_, g0, i2⟩, ⟨_, g0, i42⟩, kr115⟩) (fun w117 hw118 hf119 m120 u125 => ?_)
    have hs121 := ty_same_tr (ty_same_rf w) (hx_sapp m120)
    obtain ⟨fs126, g127, -, q128⟩ := hx_obj hw118 hG0 (s := 30) rfl (by decide)
    obtain ⟨gG129, ⟨fsG130, gA131, iA132⟩, hG133⟩ := u125 _ _ _ rfl
    obtain rfl := hx_inj g127 gA131
    refine ax_go 1 (y := (7, [some (.ref o), some (.int e), none, none, none], [.ref o], w117, 0, 0)) rfl trivial ?_
    obtain ⟨x134, e135, a136, b137⟩ := hx_fi (k := 43) (lo := (-2147483648)) (hi := 2147483647) q128 rfl
    refine hx_gf (l := 10) rfl rfl rfl g127 e135 ?_
    refine ax_go 2 (y := (12, [some (.ref o), some (.int e), some (.int x134), none, none], [.ref o], w117, 0, 0)) rfl trivial ?_
    refine hx_gf (l := 15) rfl rfl rfl g127 iA132 ?_
    refine ax_go 1 (y := (16, [some (.ref o), some (.int e), some (.int x134), some (.int gG129), none], [], w117, 0, 0)) rfl trivial ?_
    refine hx_k (l := 17) (m := 0) rfl rfl (by decide) (fun z138 h139 => ?_)
    refine ax_go 1 (y := (19, [some (.ref o), some (.int e), some (.int x134), some (.int gG129), some (.int z138)], [], w117, 0, 0)) rfl trivial ?_
    exact ct19 _ w117 x134 gG129 z138 hw118 hf119 hs121 ⟨_, g127, ((hx_kf m120 (hx_mem hG0 (by decide)) g0 g127).trans i2)⟩ ⟨_, g127, ((hx_kf m120 (hx_mem hG0 (by decide)) g0 g127).trans i42)⟩ (by omega) (by omega) (Nat.lt_succ_self _)
def fb_X9_orders : List (Nat × Nat) := [(8, 3), (8, 5), (19, 999), (33, 999), (34, 999), (1, 0), (18, 999), (2, 11), (2, 14), (1, 15), (54, 11), (4, 2), (7, 9), (30, 2), (46, 999), (47, 999), (30, 35), (30, 36), (7, 0), (24, 999), (37, 999), (30, 4), (30, 5), (30, 6), (30, 11), (30, 15), (30, 16), (30, 17), (30, 30), (1, 1), (1, 3), (1, 10), (1, 13), (8, 0), (30, 49), (2, 15), (8, 1)]
set_option maxHeartbeats 8000000 in
theorem h_X9_orders {ro : ab_R} {G : Nat → Nat} {fz : List (Nat × Nat)} {F : ab_W → Prop} (hF : ∀ w w', ty_same G prM w w' → F w → F w') (hfz : ∀ q ∈ fz, q ∈ fb_X9_orders) (d : Nat) : ck_ct ro sp_ G (F9 G F) fz (ab_Ev ro ab_codes (d + 104)) 229 [(2, 30, 0)] (some (0, (-2147483648), 2147483647)) 0 0 := by
  have hFF := F9_sameN hF
  refine ck_hand (d := d + 103) (by decide) (fun as w hw hf has => ?_)
  match as, has with
  | [v0], ⟨h0, _⟩ =>
    obtain ⟨o, rfl, _, hG0⟩ := ty_refn h0 rfl rfl
    replace hG0 : G o = 30 := hG0
    refine ⟨rfl, ?_⟩
    obtain ⟨fs1, g2, -, q3⟩ := hx_obj hw hG0 (s := 30) rfl (by decide)
    obtain ⟨pk, e_pk, hG_pk⟩ := hx_fr (k := 2) (s := 32) q3 rfl
    obtain ⟨f0, g_f0, r_f0⟩ := hx_row hw hG_pk (s := 32) (kd := 0) (n := 5721) rfl (by decide)
    have ct122 : ∀ (nq : Nat) (w4 : ab_W) (ua2 : Int32) (en2 : Int32) (n32 : Int32) (k4 : Int32), ty_w sp_ G w4 → (F9 G F) w4 → ty_same G fz w w4 → (0 ≤ ua2.toInt) → (ua2.toInt ≤ 16) → (0 ≤ k4.toInt) → (k4.toInt ≤ 1152) → (1153 - k4.toInt).toNat < nq → ab_wp ro (ab_Ev ro ab_codes (d + 103)) 9 false (some .int) ab_k_X9_orders (fun o_1 => ∃ v w1, o_1 = (v, w1, 0, 0) ∧ ty_w sp_ G w1 ∧ (F9 G F) w1 ∧ ty_same G fz w w1 ∧ ck_res G (some (0, (-2147483648), 2147483647)) v ∧ ck_wit 0 0 [.ref o] v) (122, [some (.ref o), some (.int ua2), some (.int en2), some (.int n32), some (.int k4)], [], w4, 0, 0) := by
      intro nq
      induction nq with
      | zero => intro w4 ua2 en2 n32 k4 hw9 hf10 hs11 i5 i6 i7 i8 hm; exact absurd hm (Nat.not_lt_zero _)
      | succ nq ih122 =>
        intro w4 ua2 en2 n32 k4 hw9 hf10 hs11 i5 i6 i7 i8 hm122
        refine ax_go 1 (y := (124, [some (.ref o), some (.int ua2), some (.int en2), some (.int n32), some (.int k4)], [.int k4], w4, 0, 0)) rfl trivial ?_
        refine hx_k (l := 127) (m := 1152) rfl rfl (by decide) (fun z12 h13 => ?_)
        refine hx_ic_ge (l := 130) rfl rfl (fun h14 => ?_) (fun h14 => ?_)
        · -- 150
          refine ax_go 2 (y := (152, [some (.ref o), some (.int ua2), some (.int en2), some (.int n32), some (.int k4)], [.int ua2, .ref o], w4, 0, 0)) rfl trivial ?_
          obtain ⟨fs15, g16, -, q17⟩ := hx_obj hw9 hG0 (s := 30) rfl (by decide)
          refine hx_pf (q := (0, 0, 0, 0, 0, 16)) (s := 30) (l := 155) (v := .int ua2) rfl rfl rfl (by decide) rfl rfl rfl hw9 hG0 g16 trivial (hx_ti (G := G) (lo := 0) (hi := 16) (by omega) (by omega)) (fun w18 fs19 g20 e21 o22 n23 hw24 n25 => ?_)
          have hs26 := ty_same_tr hs11 (n25 fz (hx_ok hfz (by decide)))
          have hf27 := hFF _ _ (n25 pr_ (by decide)) hf10
          refine ax_go 2 (y := (157, [some (.ref o), some (.int ua2), some (.int en2), some (.int n32), some (.int k4)], [.int n32, .ref o], w18, 0, 0)) rfl trivial ?_
          refine hx_pf (q := (0, 0, 0, 0, (-2147483648), 2147483647)) (s := 30) (l := 160) (v := .int n32) rfl rfl rfl (by decide) rfl rfl rfl hw24 hG0 g20 trivial (ck_top_ok (G := G) n32) (fun w28 fs29 g30 e31 o32 n33 hw34 n35 => ?_)
          have hs36 := ty_same_tr hs26 (n35 fz (hx_ok hfz (by decide)))
          have hf37 := hFF _ _ (n35 pr_ (by decide)) hf27
          refine ax_go 1 (y := (161, [some (.ref o), some (.int ua2), some (.int en2), some (.int n32), some (.int k4)], [.ref o], w28, 0, 0)) rfl trivial ?_
          refine hx_k (l := 163) (m := (-3)) rfl rfl (by decide) (fun z38 h39 => ?_)
          refine hx_ci (l := 166) (as := [.ref o, .int z38]) rfl rfl (hx_iv (j := 124) (n := 1) (o := o) (r := []) rfl rfl g30 rfl) (cc_X9_refuses_0 (fz := fz) hFF  (fun q hq => (by decide +kernel : ∀ q ∈ fb_X9_orders, q ∈ fr_X9_refuses_0) q (hfz q hq)) (d + 102)) hw34 hf37 ⟨(hx_tr (G := G) (s := 30) (b := 0) hG0 (by decide)), (hx_ti (G := G) (lo := (-6)) (hi := (-1)) (by omega) (by omega)), trivial⟩ (fun w40 z45 hw41 hf42 m43 a46 b47 u48 => ?_)
          have hs44 := ty_same_tr hs36 m43
          exact ax_ret rfl rfl trivial ⟨some (.int z45), _, rfl, hw41, hf42, hs44, (ck_top_ok (G := G) z45), trivial⟩
        · -- 130
          refine ax_go 1 (y := (131, [some (.ref o), some (.int ua2), some (.int en2), some (.int n32), some (.int k4)], [.ref o], w4, 0, 0)) rfl trivial ?_
          obtain ⟨fs49, g50, -, q51⟩ := hx_obj hw9 hG0 (s := 30) rfl (by decide)
          obtain ⟨p52, e53, hG54⟩ := hx_fr (k := 32) (s := 44) q51 rfl
          refine hx_gf (l := 134) rfl rfl rfl g50 e53 ?_
          refine ax_go 2 (y := (137, [some (.ref o), some (.int ua2), some (.int en2), some (.int n32), some (.int k4)], [.ref o, .int k4, .ref p52], w4, 0, 0)) rfl trivial ?_
          obtain ⟨p55, e56, hG57⟩ := hx_fr (k := 33) (s := 45) q51 rfl
          refine hx_gf (l := 140) rfl rfl rfl g50 e56 ?_
          refine ax_go 1 (y := (142, [some (.ref o), some (.int ua2), some (.int en2), some (.int n32), some (.int k4)], [.int k4, .ref p55, .int k4, .ref p52], w4, 0, 0)) rfl trivial ?_
          obtain ⟨f58, g59, r60⟩ := hx_row hw9 hG57 (s := 45) (kd := 0) (n := 1152) rfl (by decide)
          refine hx_il (l := 143) rfl rfl g59 (by omega) (by omega) (fun z61 h62 => ?_)
          obtain ⟨f63, g64, r65⟩ := hx_row hw9 hG54 (s := 44) (kd := 0) (n := 1152) rfl (by decide)
          refine hx_is (s := 44) (l := 144) rfl rfl rfl hw9 hG54 g64 (by omega) (by omega) hx_sg0 (fun w66 f67 g68 e69 o70 n71 hw72 n73 => ?_)
          have hs74 := ty_same_tr hs11 (n73 fz (hx_ok hfz (by decide)))
          have old2 := hf10.1.2.2.1 _ _ hG54 g64
          have mvn : ∀ r k1 : Nat, r < 16 → k1 < 71 → k4.toInt.toNat = 72 * r + k1 → mv_b k1 (f67 k4.toInt.toNat).toInt := by
            intro r k1 hr hk e0
            rw [e69, h62, show k4.toInt.toNat = 72 * r + k1 by omega]
            exact hf10.1.2.2.2.1 _ _ hG57 g59 r hr k1 hk
          have hf75 : F9 G F w66 := ⟨FM_l hf10.1 hG54 g68 n71 (ML_up old2 o70 mvn), hF _ _ (n73 prM (by decide)) hf10.2⟩
          refine hx_iinc (x := k4) (n := 1) (l := 147) rfl rfl rfl (Nat.le_of_ble_eq_true rfl) (by omega) (by omega) (by decide) (fun z76 h77 => ?_)
          change ab_wp ro (ab_Ev ro ab_codes (d + 103)) 9 false (some .int) ab_k_X9_orders (fun o_1 => ∃ v w1, o_1 = (v, w1, 0, 0) ∧ ty_w sp_ G w1 ∧ (F9 G F) w1 ∧ ty_same G fz w w1 ∧ ck_res G (some (0, (-2147483648), 2147483647)) v ∧ ck_wit 0 0 [.ref o] v) (147, [some (.ref o), some (.int ua2), some (.int en2), some (.int n32), some (.int z76)], [], w66, 0, 0)
          refine ax_go 1 (y := (122, [some (.ref o), some (.int ua2), some (.int en2), some (.int n32), some (.int z76)], [], w66, 0, 0)) rfl trivial ?_
          exact ih122 w66 ua2 en2 n32 z76 hw72 hf75 hs74 (by omega) (by omega) (by omega) (by omega) (by omega)
    have ct95 : ∀ (nq : Nat) (w78 : ab_W) (ua : Int32) (en : Int32) (n3 : Int32) (u4 : Option Int32) (oa : Int32) (fX : Nat → Int32), ty_w sp_ G w78 → (F9 G (FX pk fX F)) w78 → ty_same G fz w w78 → (hx_has w78 o 9 2 (.ref pk)) → (hx_has w78 o 9 42 (.int oa)) → (0 ≤ ua.toInt) → (ua.toInt ≤ 16) → (en.toInt ≤ 2800) → (0 ≤ oa.toInt) → (0 ≤ n3.toInt) → (n3.toInt ≤ oa.toInt) → (GW true (cf fX) en.toInt.toNat oa.toInt.toNat) → (2802 - oa.toInt).toNat < nq → ab_wp ro (ab_Ev ro ab_codes (d + 103)) 9 false (some .int) ab_k_X9_orders (fun o_1 => ∃ v w1, o_1 = (v, w1, 0, 0) ∧ ty_w sp_ G w1 ∧ (F9 G F) w1 ∧ ty_same G fz w w1 ∧ ck_res G (some (0, (-2147483648), 2147483647)) v ∧ ck_wit 0 0 [.ref o] v) (95, [some (.ref o), some (.int ua), some (.int en), some (.int n3), (u4.map Value.int)], [], w78, 0, 0) := by
      intro nq
      induction nq with
      | zero => intro w78 ua en n3 u4 oa fX hw87 hf88 hs89 hh79 hh80 i81 i82 i83 i84 i85 i86 hW hm; exact absurd hm (Nat.not_lt_zero _)
      | succ nq ih95 =>
        intro w78 ua en n3 u4 oa fX hw87 hf88 hs89 hh79 hh80 i81 i82 i83 i84 i85 i86 hW hm95
        obtain ⟨fs90, g91, e92⟩ := hh79
        obtain ⟨fs93, g94, e95⟩ := hh80
        obtain rfl : fs90 = fs93 := hx_inj g91 g94
        have q96 := hx_oq hw87 g91 hG0 (s := 30) rfl
        obtain ⟨x97, e98, a99, b100⟩ := hx_fi (k := 42) (lo := (-2147483648)) (hi := 2147483647) q96 rfl
        obtain rfl : oa = x97 := hx_inji e95 e98
        refine ax_go 1 (y := (96, [some (.ref o), some (.int ua), some (.int en), some (.int n3), (u4.map Value.int)], [.ref o], w78, 0, 0)) rfl trivial ?_
        refine hx_gf (l := 99) rfl rfl rfl g91 e95 ?_
        refine ax_go 1 (y := (100, [some (.ref o), some (.int ua), some (.int en), some (.int n3), (u4.map Value.int)], [.int en, .int oa], w78, 0, 0)) rfl trivial ?_
        refine hx_ic_ge (l := 103) rfl rfl (fun h101 => ?_) (fun h101 => ?_)
        · -- 173
          have hf102 : F9 G F w78 := ⟨hf88.1, hf88.2.2⟩
          refine ax_go 2 (y := (175, [some (.ref o), some (.int ua), some (.int en), some (.int n3), (u4.map Value.int)], [.ref o, .ref o], w78, 0, 0)) rfl trivial ?_
          obtain ⟨x103, e104, a105, b106⟩ := hx_fi (k := 27) (lo := (-2147483648)) (hi := 2147483647) q96 rfl
          refine hx_gf (l := 178) rfl rfl rfl g91 e104 ?_
          refine hx_ci (l := 181) (as := [.ref o, .int x103]) rfl rfl (hx_iv (j := 125) (n := 1) (o := o) (r := []) rfl rfl g91 rfl) (cc_X9_good_0 (fz := fz) hFF  (fun q hq => (by decide +kernel : ∀ q ∈ fb_X9_orders, q ∈ fr_X9_good_0) q (hfz q hq)) (d + 102)) hw87 hf102 ⟨(hx_tr (G := G) (s := 30) (b := 0) hG0 (by decide)), (ck_top_ok (G := G) x103), trivial⟩ (fun w107 z112 hw108 hf109 m110 a113 b114 u115 => ?_)
          have hs111 := ty_same_tr hs89 m110
          exact ax_ret rfl rfl trivial ⟨some (.int z112), _, rfl, hw108, hf109, hs111, (ck_top_ok (G := G) z112), trivial⟩
        · -- 103
          obtain ⟨fn, q, hk1, hk2, hW2⟩ := gw_in hW (by omega)
          refine ax_go 2 (y := (105, [some (.ref o), some (.int ua), some (.int en), some (.int n3), (u4.map Value.int)], [.int en, .ref o], w78, 0, 0)) rfl trivial ?_
          refine hx_pi (l := 108) (as := [.ref o, .int en]) rfl rfl (hx_iv (j := 233) (n := 1) (o := o) (r := []) rfl rfl g91 rfl) (hp_X9_runs (fz := ([(30, 2)] ++ fz)) hF (pk := pk) (f0 := fX) hG_pk (a := oa) (fn := fn) (q := q) (hx_app (by decide +kernel) (fun q hq => (by decide +kernel : ∀ q ∈ fb_X9_orders, q ∈ fb_hp_X9_runs) q (hfz q hq))) (d + 3)) hw87 hf88 ⟨(hx_tr (G := G) (s := 30) (b := 0) hG0 (by decide)), (hx_ti (G := G) (lo := 0) (hi := 2800) (by omega) (by omega)), trivial⟩ (fun o1 e1 h1 => by cases h1; exact ⟨by omega, by omega, hk1, ⟨_, g91, e92⟩, ⟨_, g91, e95⟩⟩) (fun w116 z121 hw117 hf118 m119 a122 b123 u124 => ?_)
          have hs120 := ty_same_tr hs89 (hx_sapp m119)
          obtain ⟨fs125, g126, -, q127⟩ := hx_obj hw117 hG0 (s := 30) rfl (by decide)
          refine hx_if_eq (l := 111) rfl rfl (fun h128 => ?_) (fun h128 => ?_)
          · -- 114
            have hf129 : F9 G F w116 := ⟨hf118.1, hf118.2.2⟩
            refine ax_go 1 (y := (115, [some (.ref o), some (.int ua), some (.int en), some (.int n3), (u4.map Value.int)], [.ref o], w116, 0, 0)) rfl trivial ?_
            refine hx_k (l := 116) (m := 1) rfl rfl (by decide) (fun z130 h131 => ?_)
            refine hx_p0 (l := 119) (as := [.ref o, .int z130]) rfl rfl (hx_iv (j := 130) (n := 1) (o := o) (r := []) rfl rfl g126 rfl) (hp_X9_takesBack (fz := fz) (fun _ _ h => hF _ _ h.1) (fun q hq => (by decide +kernel : ∀ q ∈ fb_X9_orders, q ∈ fb_hp_X9_takesBack) q (hfz q hq)) (d + 102)) hw117 hf129 ⟨(hx_tr (G := G) (s := 30) (b := 0) hG0 (by decide)), (hx_ti (G := G) (lo := 0) (hi := 1) (by omega) (by omega)), trivial⟩ trivial (fun w132 hw133 hf134 m135 u140 => ?_)
            have hs136 := ty_same_tr hs120 m135
            refine hx_k (l := 120) (m := 0) rfl rfl (by decide) (fun z141 h142 => ?_)
            refine ax_go 1 (y := (122, [some (.ref o), some (.int ua), some (.int en), some (.int n3), some (.int z141)], [], w132, 0, 0)) rfl trivial ?_
            exact ct122 _ w132 ua en n3 z141 hw133 hf134 hs136 (by omega) (by omega) (by omega) (by omega) (Nat.lt_succ_self _)
          · -- 111
            obtain ⟨gO143, ⟨fsO144, gA145, iA146⟩, hO147⟩ := u124 _ _ _ rfl rfl (by omega)
            obtain rfl := hx_inj g126 gA145
            refine ax_go 1 (y := (167, [some (.ref o), some (.int ua), some (.int en), some (.int n3), (u4.map Value.int)], [], w116, 0, 0)) rfl trivial ?_
            refine hx_iinc (x := n3) (n := 1) (l := 170) rfl rfl rfl (Nat.le_of_ble_eq_true rfl) (by omega) (by omega) (by decide) (fun z148 h149 => ?_)
            change ab_wp ro (ab_Ev ro ab_codes (d + 103)) 9 false (some .int) ab_k_X9_orders (fun o_1 => ∃ v w1, o_1 = (v, w1, 0, 0) ∧ ty_w sp_ G w1 ∧ (F9 G F) w1 ∧ ty_same G fz w w1 ∧ ck_res G (some (0, (-2147483648), 2147483647)) v ∧ ck_wit 0 0 [.ref o] v) (170, [some (.ref o), some (.int ua), some (.int en), some (.int z148), (u4.map Value.int)], [], w116, 0, 0)
            refine ax_go 1 (y := (95, [some (.ref o), some (.int ua), some (.int en), some (.int z148), (u4.map Value.int)], [], w116, 0, 0)) rfl trivial ?_
            exact ih95 w116 ua en z148 u4 gO143 fX hw117 hf118 hs120 ⟨_, g126, ((hx_kf m119 (hx_mem hG0 (by decide)) g91 g126).trans e92)⟩ ⟨_, g126, iA146⟩ (by omega) (by omega) (by omega) (by omega) (by omega) (by omega) (by rw [show gO143.toInt.toNat = q + 1 by omega]; exact hW2) (by omega)
    have ct27 : ∀ (nq : Nat) (w150 : ab_W) (i : Int32) (e : Int32) (fc : Nat → Int32) (pc : Nat), ty_w sp_ G w150 → (F9 G F) w150 → ty_same G fz w w150 → (hx_has w150 o 9 2 (.ref pk)) → (hx_has w150 o 9 15 (.ref pc)) → (hx_has w150 o 9 18 (.int e)) → (w150[pk]? = some (.inl (0, 5721, .inl f0))) → (w150[pc]? = some (.inl (0, 401, .inl fc))) → (G pc = 39) → (0 ≤ e.toInt) → (e.toInt ≤ 400) → (GW true (cd fc) e.toInt.toNat 0) → (0 ≤ i.toInt) → (i.toInt ≤ 1152) → (1153 - i.toInt).toNat < nq → ab_wp ro (ab_Ev ro ab_codes (d + 103)) 9 false (some .int) ab_k_X9_orders (fun o_1 => ∃ v w1, o_1 = (v, w1, 0, 0) ∧ ty_w sp_ G w1 ∧ (F9 G F) w1 ∧ ty_same G fz w w1 ∧ ck_res G (some (0, (-2147483648), 2147483647)) v ∧ ck_wit 0 0 [.ref o] v) (27, [some (.ref o), some (.int i), none, none, none], [], w150, 0, 0) := by
      intro nq
      induction nq with
      | zero => intro w150 i e fc pc hw160 hf161 hs162 hh151 hh152 hh153 g154 g155 hG_pc i156 i157 hGW i158 i159 hm; exact absurd hm (Nat.not_lt_zero _)
      | succ nq ih27 =>
        intro w150 i e fc pc hw160 hf161 hs162 hh151 hh152 hh153 g154 g155 hG_pc i156 i157 hGW i158 i159 hm27
        obtain ⟨fs163, g164, e165⟩ := hh151
        obtain ⟨fs166, g167, e168⟩ := hh152
        obtain rfl : fs163 = fs166 := hx_inj g164 g167
        obtain ⟨fs169, g170, e171⟩ := hh153
        obtain rfl : fs163 = fs169 := hx_inj g164 g170
        have q172 := hx_oq hw160 g164 hG0 (s := 30) rfl
        obtain ⟨x173, e174, a175, b176⟩ := hx_fi (k := 18) (lo := 0) (hi := 400) q172 rfl
        obtain rfl : e = x173 := hx_inji e171 e174
        refine ax_go 1 (y := (28, [some (.ref o), some (.int i), none, none, none], [.int i], w150, 0, 0)) rfl trivial ?_
        refine hx_k (l := 31) (m := 1152) rfl rfl (by decide) (fun z177 h178 => ?_)
        refine hx_ic_ge (l := 34) rfl rfl (fun h179 => ?_) (fun h179 => ?_)
        · -- 52
          refine ax_go 1 (y := (53, [some (.ref o), some (.int i), none, none, none], [.ref o], w150, 0, 0)) rfl trivial ?_
          obtain ⟨x180, e181, a182, b183⟩ := hx_fi (k := 34) (lo := 0) (hi := 16) q172 rfl
          refine hx_gf (l := 56) rfl rfl rfl g164 e181 ?_
          refine ax_go 1 (y := (57, [some (.ref o), some (.int x180), none, none, none], [], w150, 0, 0)) rfl trivial ?_
          have k112 := ((hf161.1.1 _ _ hG_pk g154).1 112 (by decide)).2.2.2.2.2.2.1 rfl
          refine ax_go 1 (y := (58, [some (.ref o), some (.int x180), none, none, none], [.ref o], w150, 0, 0)) rfl trivial ?_
          refine hx_k (l := 60) (m := 6) rfl rfl (by decide) (fun z184 h185 => ?_)
          refine hx_p0 (l := 63) (as := [.ref o, .int z184]) rfl rfl (hx_iv (j := 168) (n := 1) (o := o) (r := []) rfl rfl g164 rfl) (hp_X9_lays (fz := fz) hF (fun q hq => (by decide +kernel : ∀ q ∈ fb_X9_orders, q ∈ fb_hp_X9_lays) q (hfz q hq)) (d + 102)) hw160 hf161 ⟨(hx_tr (G := G) (s := 30) (b := 0) hG0 (by decide)), (hx_ti (G := G) (lo := 0) (hi := 6) (by omega) (by omega)), trivial⟩ (fun y0 y1 pk1 f1 h1 h2 h3 => by cases h1; obtain ⟨fs1, g1, e1⟩ := h2; obtain rfl := hx_inj g164 g1; cases e165.symm.trans e1; obtain rfl := hx_injr g154 h3; omega) (fun w186 hw187 hf188 m189 u194 => ?_)
          have hs190 := ty_same_tr hs162 m189
          obtain ⟨⟨fs195, gA196, eA197⟩, fL198, gL199, hL200, hS201, hC202⟩ := u194 _ _ _ _ _ _ _ rfl ⟨_, g164, e165⟩ g154 ⟨_, g164, e168⟩ g155 ⟨_, g164, e171⟩
          refine ax_go 1 (y := (64, [some (.ref o), some (.int x180), none, none, none], [.ref o], w186, 0, 0)) rfl trivial ?_
          refine hx_k (l := 65) (m := 0) rfl rfl (by decide) (fun z203 h204 => ?_)
          refine hx_pf (q := (0, 0, 0, 0, (-2147483648), 2147483647)) (s := 30) (l := 68) (v := .int z203) rfl rfl rfl (by decide) rfl rfl rfl hw187 hG0 gA196 trivial (ck_top_ok (G := G) z203) (fun w205 fs206 g207 e208 o209 n210 hw211 n212 => ?_)
          have hs213 := ty_same_tr hs190 (n212 fz (hx_ok hfz (by decide)))
          have hf214 := hFF _ _ (n212 pr_ (by decide)) hf188
          refine ax_go 1 (y := (69, [some (.ref o), some (.int x180), none, none, none], [.ref o], w205, 0, 0)) rfl trivial ?_
          refine hx_k (l := 70) (m := (-1)) rfl rfl (by decide) (fun z215 h216 => ?_)
          refine hx_pf (q := (0, 0, 0, 0, (-2147483648), 2147483647)) (s := 30) (l := 73) (v := .int z215) rfl rfl rfl (by decide) rfl rfl rfl hw211 hG0 g207 trivial (ck_top_ok (G := G) z215) (fun w217 fs218 g219 e220 o221 n222 hw223 n224 => ?_)
          have hs225 := ty_same_tr hs213 (n224 fz (hx_ok hfz (by decide)))
          have hf226 := hFF _ _ (n224 pr_ (by decide)) hf214
          refine ax_go 1 (y := (74, [some (.ref o), some (.int x180), none, none, none], [.ref o], w217, 0, 0)) rfl trivial ?_
          refine hx_k (l := 77) (m := 2400) rfl rfl (by decide) (fun z227 h228 => ?_)
          refine hx_pf (q := (0, 0, 0, 0, (-2147483648), 2147483647)) (s := 30) (l := 80) (v := .int z227) rfl rfl rfl (by decide) rfl rfl rfl hw223 hG0 g219 trivial (ck_top_ok (G := G) z227) (fun w229 fs230 g231 e232 o233 n234 hw235 n236 => ?_)
          have hs237 := ty_same_tr hs225 (n236 fz (hx_ok hfz (by decide)))
          have hf238 := hFF _ _ (n236 pr_ (by decide)) hf226
          refine ax_go 1 (y := (81, [some (.ref o), some (.int x180), none, none, none], [.ref o], w229, 0, 0)) rfl trivial ?_
          refine hx_gf (l := 84) rfl rfl rfl g231 e232 ?_
          refine ax_go 1 (y := (85, [some (.ref o), some (.int x180), none, none, none], [.ref o, .int z227], w229, 0, 0)) rfl trivial ?_
          refine hx_gf (l := 88) rfl rfl rfl g231 ((o233 2 (by decide)).trans ((o221 2 (by decide)).trans ((o209 2 (by decide)).trans eA197))) ?_
          refine hx_k (l := 90) (m := 120) rfl rfl (by decide) (fun z239 h240 => ?_)
          have r241 := hx_rq hw235 ((n234 _ (hx_ne hG_pk hG0 (by decide))).trans ((n222 _ (hx_ne hG_pk hG0 (by decide))).trans ((n210 _ (hx_ne hG_pk hG0 (by decide))).trans gL199))) hG_pk (s := 32) rfl
          refine hx_il (l := 91) rfl rfl ((n234 _ (hx_ne hG_pk hG0 (by decide))).trans ((n222 _ (hx_ne hG_pk hG0 (by decide))).trans ((n210 _ (hx_ne hG_pk hG0 (by decide))).trans gL199))) (by omega) (by omega) (fun z242 h243 => ?_)
          have b244 := ((hf238.1.1 _ _ hG_pk ((n234 _ (hx_ne hG_pk hG0 (by decide))).trans ((n222 _ (hx_ne hG_pk hG0 (by decide))).trans ((n210 _ (hx_ne hG_pk hG0 (by decide))).trans gL199)))).1 z239.toInt.toNat (by omega)).2.2.2.2.2.2.2.2 (by omega) (by omega)
          rw [← h243] at b244
          rw [show z239.toInt.toNat = 114 + z184.toInt.toNat by omega] at h243
          replace h243 := congrArg Int32.toInt h243
          refine hx_add (l := 92) rfl rfl (fun z245 h246 => ?_)
          replace h246 := h246 (by omega) (by omega)
          refine ax_go 1 (y := (93, [some (.ref o), some (.int x180), some (.int z245), none, none], [], w229, 0, 0)) rfl trivial ?_
          refine hx_k (l := 94) (m := 0) rfl rfl (by decide) (fun z247 h248 => ?_)
          refine ax_go 1 (y := (95, [some (.ref o), some (.int x180), some (.int z245), some (.int z247), none], [], w229, 0, 0)) rfl trivial ?_
          exact ct95 _ w229 x180 z245 z247 none z227 fL198 hw235 ⟨hf238.1, ⟨fL198, ((n234 _ (hx_ne hG_pk hG0 (by decide))).trans ((n222 _ (hx_ne hG_pk hG0 (by decide))).trans ((n210 _ (hx_ne hG_pk hG0 (by decide))).trans gL199))), fun _ _ => rfl⟩, hf238.2⟩ hs237 ⟨_, g231, ((o233 2 (by decide)).trans ((o221 2 (by decide)).trans ((o209 2 (by decide)).trans eA197)))⟩ ⟨_, g231, e232⟩ (by omega) (by omega) (by omega) (by omega) (by omega) (by omega) (by rw [show z245.toInt.toNat = 400 * z184.toInt.toNat + (fL198 (114 + z184.toInt.toNat)).toInt.toNat by omega, show z227.toInt.toNat = 400 * z184.toInt.toNat by omega]; exact pa_lay (by omega) hS201 hC202 hGW) (Nat.lt_succ_self _)
        · -- 34
          refine ax_go 1 (y := (35, [some (.ref o), some (.int i), none, none, none], [.ref o], w150, 0, 0)) rfl trivial ?_
          obtain ⟨p249, e250, hG251⟩ := hx_fr (k := 33) (s := 45) q172 rfl
          refine hx_gf (l := 38) rfl rfl rfl g164 e250 ?_
          refine ax_go 2 (y := (40, [some (.ref o), some (.int i), none, none, none], [.ref o, .int i, .ref p249], w150, 0, 0)) rfl trivial ?_
          obtain ⟨p252, e253, hG254⟩ := hx_fr (k := 32) (s := 44) q172 rfl
          refine hx_gf (l := 43) rfl rfl rfl g164 e253 ?_
          refine ax_go 1 (y := (44, [some (.ref o), some (.int i), none, none, none], [.int i, .ref p252, .int i, .ref p249], w150, 0, 0)) rfl trivial ?_
          obtain ⟨f255, g256, r257⟩ := hx_row hw160 hG254 (s := 44) (kd := 0) (n := 1152) rfl (by decide)
          refine hx_il (l := 45) rfl rfl g256 (by omega) (by omega) (fun z258 h259 => ?_)
          obtain ⟨f260, g261, r262⟩ := hx_row hw160 hG251 (s := 45) (kd := 0) (n := 1152) rfl (by decide)
          refine hx_is (s := 45) (l := 46) rfl rfl rfl hw160 hG251 g261 (by omega) (by omega) hx_sg0 (fun w263 f264 g265 e266 o267 n268 hw269 n270 => ?_)
          have hs271 := ty_same_tr hs162 (n270 fz (hx_ok hfz (by decide)))
          have old2 := hf161.1.2.2.2.1 _ _ hG251 g261
          have mvn : ∀ r k1 : Nat, r < 16 → k1 < 71 → i.toInt.toNat = 72 * r + k1 → mv_b k1 (f264 i.toInt.toNat).toInt := by
            intro r k1 hr hk e0
            rw [e266, h259, show i.toInt.toNat = 72 * r + k1 by omega]
            exact hf161.1.2.2.1 _ _ hG254 g256 r hr k1 hk
          have hf272 : F9 G F w263 := ⟨FM_L hf161.1 hG251 g265 n268 (ML_up old2 o267 mvn), hF _ _ (n270 prM (by decide)) hf161.2⟩
          refine hx_iinc (x := i) (n := 1) (l := 49) rfl rfl rfl (Nat.le_of_ble_eq_true rfl) (by omega) (by omega) (by decide) (fun z273 h274 => ?_)
          change ab_wp ro (ab_Ev ro ab_codes (d + 103)) 9 false (some .int) ab_k_X9_orders (fun o_1 => ∃ v w1, o_1 = (v, w1, 0, 0) ∧ ty_w sp_ G w1 ∧ (F9 G F) w1 ∧ ty_same G fz w w1 ∧ ck_res G (some (0, (-2147483648), 2147483647)) v ∧ ck_wit 0 0 [.ref o] v) (49, [some (.ref o), some (.int z273), none, none, none], [], w263, 0, 0)
          refine ax_go 1 (y := (27, [some (.ref o), some (.int z273), none, none, none], [], w263, 0, 0)) rfl trivial ?_
          exact ih27 w263 z273 e fc pc hw269 hf272 hs271 ⟨_, ((n268 _ (hx_ne hG0 hG251 (by decide))).trans g164), e165⟩ ⟨_, ((n268 _ (hx_ne hG0 hG251 (by decide))).trans g164), e168⟩ ⟨_, ((n268 _ (hx_ne hG0 hG251 (by decide))).trans g164), e171⟩ ((n268 _ (hx_ne hG_pk hG251 (by decide))).trans g154) ((n268 _ (hx_ne hG_pc hG251 (by decide))).trans g155) hG_pc (by omega) (by omega) hGW (by omega) (by omega) (by omega)
    change ab_wp ro (ab_Ev ro ab_codes (d + 103)) 9 false (some .int) ab_k_X9_orders (fun o_1 => ∃ v w1, o_1 = (v, w1, 0, 0) ∧ ty_w sp_ G w1 ∧ (F9 G F) w1 ∧ ty_same G fz w w1 ∧ ck_res G (some (0, (-2147483648), 2147483647)) v ∧ ck_wit 0 0 [.ref o] v) (0, [some (.ref o), none, none, none, none], [], w, 0, 0)
    refine ax_go 1 (y := (1, [some (.ref o), none, none, none, none], [.ref o], w, 0, 0)) rfl trivial ?_
    refine hx_k (l := 2) (m := (-1)) rfl rfl (by decide) (fun z275 h276 => ?_)
    refine hx_pf (q := (0, 0, 0, 0, (-2147483648), 2147483647)) (s := 30) (l := 5) (v := .int z275) rfl rfl rfl (by decide) rfl rfl rfl hw hG0 g2 trivial (ck_top_ok (G := G) z275) (fun w277 fs278 g279 e280 o281 n282 hw283 n284 => ?_)
    have hs285 := ty_same_tr (ty_same_rf w) (n284 fz (hx_ok hfz (by decide)))
    have hf286 := hFF _ _ (n284 pr_ (by decide)) hf
    refine ax_go 1 (y := (6, [some (.ref o), none, none, none, none], [.ref o], w277, 0, 0)) rfl trivial ?_
    refine hx_k (l := 7) (m := 1) rfl rfl (by decide) (fun z287 h288 => ?_)
    refine hx_pi (l := 10) (as := [.ref o, .int z287]) rfl rfl (hx_iv (j := 167) (n := 1) (o := o) (r := []) rfl rfl g279 rfl) (hp_X9_readsAs (fz := ([(32, 999), (30, 2)] ++ fz)) (fun _ _ h => hF _ _ h.1) (hx_app (by decide +kernel) (fun q hq => (by decide +kernel : ∀ q ∈ fb_X9_orders, q ∈ fb_hp_X9_readsAs) q (hfz q hq))) (d + 30)) hw283 hf286 ⟨(hx_tr (G := G) (s := 30) (b := 0) hG0 (by decide)), (hx_ti (G := G) (lo := 0) (hi := 1) (by omega) (by omega)), trivial⟩ trivial (fun w289 z294 hw290 hf291 m292 a295 b296 u297 => ?_)
    have hs293 := ty_same_tr hs285 (hx_sapp m292)
    obtain ⟨fs298, g299, -, q300⟩ := hx_obj hw290 hG0 (s := 30) rfl (by decide)
    refine hx_if_ne (l := 13) rfl rfl (fun h301 => ?_) (fun h301 => ?_)
    · -- 20
      obtain ⟨pc, fc, e, ⟨fsA302, gA303, iA304⟩, ⟨fsB305, gB306, iB307⟩, gc308, ⟨ha309, hb310⟩, hGW⟩ := u297 _ _ _ rfl rfl (by omega)
      obtain rfl := hx_inj g299 gA303
      obtain rfl := hx_inj g299 gB306
      have hG_pc := pa_r15 hw290 g299 hG0 iA304
      have hGW1 : decide (z287.toInt ≠ 0) = true := decide_eq_true (by omega)
      rw [hGW1] at hGW
      refine ax_go 1 (y := (21, [some (.ref o), none, none, none, none], [.ref o], w289, 0, 0)) rfl trivial ?_
      refine hx_k (l := 22) (m := 1) rfl rfl (by decide) (fun z311 h312 => ?_)
      refine hx_p0 (l := 25) (as := [.ref o, .int z311]) rfl rfl (hx_iv (j := 129) (n := 1) (o := o) (r := []) rfl rfl g299 rfl) (hp_X9_laysAside (fz := ([(32, 999), (30, 2), (39, 999), (30, 15), (30, 18)] ++ fz)) (fun _ _ h => hF _ _ h.1) (hx_app (by decide +kernel) (fun q hq => (by decide +kernel : ∀ q ∈ fb_X9_orders, q ∈ fb_hp_X9_laysAside) q (hfz q hq))) (d + 102)) hw290 hf291 ⟨(hx_tr (G := G) (s := 30) (b := 0) hG0 (by decide)), (hx_ti (G := G) (lo := 0) (hi := 1) (by omega) (by omega)), trivial⟩ trivial (fun w313 hw314 hf315 m316 u321 => ?_)
      have hs317 := ty_same_tr hs293 (hx_sapp m316)
      obtain ⟨fs322, g323, -, q324⟩ := hx_obj hw314 hG0 (s := 30) rfl (by decide)
      refine hx_k (l := 26) (m := 0) rfl rfl (by decide) (fun z325 h326 => ?_)
      refine ax_go 1 (y := (27, [some (.ref o), some (.int z325), none, none, none], [], w313, 0, 0)) rfl trivial ?_
      exact ct27 _ w313 z325 e fc pc hw314 hf315 hs317 ⟨_, g323, ((hx_kf m316 (hx_mem hG0 (by decide)) g299 g323).trans ((hx_kf m292 (hx_mem hG0 (by decide)) g279 g299).trans ((o281 2 (by decide)).trans e_pk)))⟩ ⟨_, g323, ((hx_kf m316 (hx_mem hG0 (by decide)) g299 g323).trans iA304)⟩ ⟨_, g323, ((hx_kf m316 (hx_mem hG0 (by decide)) g299 g323).trans iB307)⟩ ((hx_kr m316 (hx_mem hG_pk (by decide))).trans ((hx_kr m292 (hx_mem hG_pk (by decide))).trans ((n282 _ (hx_ne hG_pk hG0 (by decide))).trans g_f0))) ((hx_kr m316 (hx_mem hG_pc (by decide))).trans gc308) hG_pc (by omega) (by omega) hGW (by omega) (by omega) (Nat.lt_succ_self _)
    · -- 13
      refine ax_go 1 (y := (14, [some (.ref o), none, none, none, none], [.ref o], w289, 0, 0)) rfl trivial ?_
      refine hx_k (l := 16) (m := (-6)) rfl rfl (by decide) (fun z327 h328 => ?_)
      refine hx_ci (l := 19) (as := [.ref o, .int z327]) rfl rfl (hx_iv (j := 124) (n := 1) (o := o) (r := []) rfl rfl g299 rfl) (cc_X9_refuses_0 (fz := fz) hFF  (fun q hq => (by decide +kernel : ∀ q ∈ fb_X9_orders, q ∈ fr_X9_refuses_0) q (hfz q hq)) (d + 102)) hw290 hf291 ⟨(hx_tr (G := G) (s := 30) (b := 0) hG0 (by decide)), (hx_ti (G := G) (lo := (-6)) (hi := (-1)) (by omega) (by omega)), trivial⟩ (fun w329 z334 hw330 hf331 m332 a335 b336 u337 => ?_)
      have hs333 := ty_same_tr hs293 m332
      exact ax_ret rfl rfl trivial ⟨some (.int z334), _, rfl, hw330, hf331, hs333, (ck_top_ok (G := G) z334), trivial⟩
