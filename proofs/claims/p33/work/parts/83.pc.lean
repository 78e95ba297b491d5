/-! walks by program: the parser's recursion -/
def fb_hr_readTerm : List (Nat × Nat) := [(8, 3), (8, 5), (19, 999), (32, 999), (33, 999), (34, 999), (35, 999), (44, 999), (45, 999), (1, 0), (18, 999), (2, 11), (2, 14), (1, 15), (54, 11), (4, 2), (7, 9), (30, 13), (30, 34), (30, 2), (30, 22), (30, 23), (30, 24), (30, 25), (46, 999), (47, 999), (30, 35), (30, 36), (7, 0), (24, 999), (37, 999), (30, 4), (30, 5), (30, 6), (30, 8), (30, 9), (30, 10), (30, 11), (30, 14), (30, 15), (30, 16), (30, 17), (30, 18), (30, 20), (30, 21), (39, 999), (40, 999), (41, 999), (30, 30), (30, 42), (30, 43), (30, 44), (1, 1), (1, 3), (1, 10), (1, 13), (8, 0), (30, 49), (2, 15), (8, 1)]
set_option maxHeartbeats 8000000 in
theorem hr_readTerm {ro : ab_R} {G : Nat → Nat} {fz : List (Nat × Nat)} {F : ab_W → Prop} (hF : ∀ w w', smt G w w' → F w → F w') (d : Nat) {pc pp : Nat} {fc fp : Nat → Int32} {tk e bd io fw lw : Int32} (hok : pa_ok fc fp e io fw lw) (htk : 0 ≤ tk.toInt ∧ tk.toInt ≤ e.toInt) {b : Nat} (hD : 6 * b + 7 ≤ d + 6) (ihreadPart : ReK ro G F fz b 0 165 6) (hfz : ∀ q ∈ fz, q ∈ fb_hr_readTerm) : hx_ct ro sp_ G (F9 G F) fz (ab_Ev ro ab_codes (d + 6)) 164 [(2, 30, 0), (0, 0, 8)] none (paPd pc pp fc fp tk e bd io fw lw b) (paR pc pp fc fp tk e bd io fw lw (fun t => GP (cd fc) e.toInt.toNat (decide (io.toInt ≠ 0)) b 1 tk.toInt.toNat t.toInt.toNat)) := by
  have hFF := F9_same hF
  refine hx_hand (d := d + 5) (by decide) (fun as w hw hf has hP => ?_)
  match as, has with
  | [v0, v1], ⟨h0, h1, _⟩ =>
    obtain ⟨o, rfl, _, hG0⟩ := ty_refn h0 rfl rfl
    replace hG0 : G o = 30 := hG0
    obtain ⟨l, rfl, hl1, hh1⟩ := ty_int h1 rfl
    replace hl1 : (0 : Int) ≤ l.toInt := hl1
    replace hh1 : l.toInt ≤ 8 := hh1
    refine ⟨rfl, ?_⟩
    obtain ⟨fs0, g0, i15, i17, i19, i18, i21, i10, i8, i9, gc0, gp0⟩ := (hP o l rfl).1
    obtain ⟨⟨he0, he1⟩, hz0, hpl, -, -⟩ := id hok
    have hfw := pa_fw hok
    have hG_pc := pa_r15 hw g0 hG0 i15
    have hG_pp := pa_r17 hw g0 hG0 i17
    have hl8 := (hP o l rfl).2
    have ct5 : ∀ (nq : Nat) (w1 : ab_W) (tq : Int32) (bq : Int32), ty_w sp_ G w1 → (F9 G F) w1 → ty_same G fz w w1 → (hx_has w1 o 9 19 (.int tq)) → (hx_has w1 o 9 21 (.int bq)) → (hx_has w1 o 9 15 (.ref pc)) → (hx_has w1 o 9 17 (.ref pp)) → (hx_has w1 o 9 18 (.int e)) → (hx_has w1 o 9 10 (.int io)) → (hx_has w1 o 9 8 (.int fw)) → (hx_has w1 o 9 9 (.int lw)) → (w1[pc]? = some (.inl (0, 401, .inl fc))) → (w1[pp]? = some (.inl (0, 401, .inl fp))) → (tk.toInt ≤ tq.toInt) → (tq.toInt ≤ e.toInt) → (bq.toInt = -1 → bd.toInt = -1 ∧ ∀ q, GP (cd fc) e.toInt.toNat (decide (io.toInt ≠ 0)) b 3 tq.toInt.toNat q → GP (cd fc) e.toInt.toNat (decide (io.toInt ≠ 0)) b 1 tk.toInt.toNat q) → (401 - tq.toInt).toNat < nq → ab_wp ro (ab_Ev ro ab_codes (d + 5)) 9 false none ab_k_X9_readTerm (fun o_1 => ∃ v w1, o_1 = (v, w1, 0, 0) ∧ ty_w sp_ G w1 ∧ (F9 G F) w1 ∧ ty_same G fz w w1 ∧ ck_res G none v ∧ (paR pc pp fc fp tk e bd io fw lw (fun t => GP (cd fc) e.toInt.toNat (decide (io.toInt ≠ 0)) b 1 tk.toInt.toNat t.toInt.toNat)) ([.ref o, .int l] : List Value) w v w1) (5, [some (.ref o), some (.int l)], [], w1, 0, 0) := by
      intro nq
      induction nq with
      | zero => intro w1 tq bq hw14 hf15 hs16 hh2 hh3 hh4 hh5 hh6 hh7 hh8 hh9 g10 g11 i12 i13 hgq hm; exact absurd hm (Nat.not_lt_zero _)
      | succ nq ih5 =>
        intro w1 tq bq hw14 hf15 hs16 hh2 hh3 hh4 hh5 hh6 hh7 hh8 hh9 g10 g11 i12 i13 hgq hm5
        obtain ⟨fs17, g18, e19⟩ := hh2
        have q20 := hx_oq hw14 g18 hG0 (s := 30) rfl
        obtain ⟨x21, e22, a23, b24⟩ := hx_fi (k := 19) (lo := 0) (hi := 400) q20 rfl
        obtain rfl : tq = x21 := hx_inji e19 e22
        obtain ⟨fs25, g26, e27⟩ := hh3
        obtain rfl : fs17 = fs25 := hx_inj g18 g26
        obtain ⟨x28, e29, a30, b31⟩ := hx_fi (k := 21) (lo := (-2147483648)) (hi := 2147483647) q20 rfl
        obtain rfl : bq = x28 := hx_inji e27 e29
        obtain ⟨fs32, g33, e34⟩ := hh4
        obtain rfl : fs17 = fs32 := hx_inj g18 g33
        obtain ⟨fs35, g36, e37⟩ := hh5
        obtain rfl : fs17 = fs35 := hx_inj g18 g36
        obtain ⟨fs38, g39, e40⟩ := hh6
        obtain rfl : fs17 = fs38 := hx_inj g18 g39
        obtain ⟨fs41, g42, e43⟩ := hh7
        obtain rfl : fs17 = fs41 := hx_inj g18 g42
        obtain ⟨fs44, g45, e46⟩ := hh8
        obtain rfl : fs17 = fs44 := hx_inj g18 g45
        obtain ⟨fs47, g48, e49⟩ := hh9
        obtain rfl : fs17 = fs47 := hx_inj g18 g48
        refine ax_go 1 (y := (6, [some (.ref o), some (.int l)], [.ref o], w1, 0, 0)) rfl trivial ?_
        refine hx_k (l := 8) (m := 42) rfl rfl (by decide) (fun z50 h51 => ?_)
        refine hx_pi (l := 11) (as := [.int z50]) rfl rfl rfl (hp_X9_sign (fz := fz) hF (fun q hq => (by decide +kernel : ∀ q ∈ fb_hr_readTerm, q ∈ fb_hp_X9_sign) q (hfz q hq)) (d + 4)) hw14 hf15 ⟨(hx_ti (G := G) (lo := 0) (hi := 255) (by omega) (by omega)), trivial⟩ trivial (fun w52 z57 hw53 hf54 m55 a58 b59 u60 => ?_)
        rw [u60.1]
        have u61 := u60.2 _ _ rfl rfl
        refine hx_pi (l := 14) (as := [.ref o, .int z57]) rfl rfl (hx_iv (j := 152) (n := 1) (o := o) (r := []) rfl rfl g18 rfl) (hp_X9_takes0 (fz := fz) hF (pc := pc) (pp := pp) (fc := fc) (fp := fp) (tk := tq) (e := e) (bd := bq) (io := io) (fw := fw) (lw := lw) hok ⟨by omega, by omega⟩ (fun q hq => (by decide +kernel : ∀ q ∈ fb_hr_readTerm, q ∈ fb_hp_X9_takes0) q (hfz q hq)) (d + 3)) hw14 hf15 ⟨(hx_tr (G := G) (s := 30) (b := 0) hG0 (by decide)), (hx_ti (G := G) (lo := 1) (hi := 355) (by omega) (by omega)), trivial⟩ (fun o1 h1 => by cases h1; exact ⟨_, g18, e34, e37, e19, e40, e27, e43, e46, e49, g10, g11⟩) (fun w62 z67 hw63 hf64 m65 a68 b69 u70 => ?_)
        have hs66 := ty_same_tr hs16 m65
        rcases u70 _ _ _ rfl rfl with ⟨hz83, hb84, hg85, tN86, ⟨fsN71, gA72, iA73, iB74, iC75, iD76, iE77, iF78, iG79, iH80, gC81, gP82⟩, ht87, hu88⟩ | ⟨hz83, hg85, ⟨fsN71, gA72, iA73, iB74, iC75, iD76, iE77, iF78, iG79, iH80, gC81, gP82⟩⟩
        · -- taken 1
          refine hx_if_ne (l := 17) rfl rfl (fun h89 => ?_) (fun h89 => by omega)
          refine ax_go 2 (y := (43, [some (.ref o), some (.int l)], [.int l, .ref o], w62, 0, 0)) rfl trivial ?_
          refine hx_p0 (l := 46) (as := [.ref o, .int l]) rfl rfl (hx_iv (j := 165) (n := 1) (o := o) (r := []) rfl rfl gA72 rfl) (ihreadPart pc pp fc fp tN86 e bq io fw lw (d + 5) hok ⟨by omega, by omega⟩ (by omega)) hw63 hf64 ⟨(hx_tr (G := G) (s := 30) (b := 0) hG0 (by decide)), (hx_ti (G := G) (lo := 0) (hi := 8) (by omega) (by omega)), trivial⟩ (fun o1 l1 h1 => by cases h1; exact ⟨⟨_, gA72, iA73, iB74, iC75, iD76, iE77, iF78, iG79, iH80, gC81, gP82⟩, by omega⟩) (fun w90 hw91 hf92 m93 u98 => ?_)
          have hs94 := ty_same_tr hs66 m93
          obtain ⟨tN111, bN112, ⟨fsN99, gA100, iA101, iB102, iC103, iD104, iE105, iF106, iG107, iH108, gC109, gP110⟩, ⟨ha113, hb114⟩, hN115⟩ := u98 _ rfl
          try dsimp only at hN115
          refine ax_go 1 (y := (5, [some (.ref o), some (.int l)], [], w90, 0, 0)) rfl trivial ?_
          exact ih5 w90 tN111 bN112 hw91 hf92 hs94 ⟨_, gA100, iC103⟩ ⟨_, gA100, iE105⟩ ⟨_, gA100, iA101⟩ ⟨_, gA100, iB102⟩ ⟨_, gA100, iD104⟩ ⟨_, gA100, iF106⟩ ⟨_, gA100, iG107⟩ ⟨_, gA100, iH108⟩ gC109 gP110 (by omega) (by omega) (fun hb => ⟨(hgq (hN115 hb).1).1, fun q hq => (hgq (hN115 hb).1).2 q (gp_tl (by omega) (by rw [show tq.toInt.toNat + 1 = tN86.toInt.toNat by omega]; exact (hN115 hb).2) hq)⟩) (by omega)
        · -- taken 0
          refine hx_if_ne (l := 17) rfl rfl (fun h116 => by omega) (fun h116 => ?_)
          refine ax_go 1 (y := (18, [some (.ref o), some (.int l)], [.ref o], w62, 0, 0)) rfl trivial ?_
          refine hx_k (l := 20) (m := 47) rfl rfl (by decide) (fun z117 h118 => ?_)
          refine hx_pi (l := 23) (as := [.int z117]) rfl rfl rfl (hp_X9_sign (fz := fz) hF (fun q hq => (by decide +kernel : ∀ q ∈ fb_hr_readTerm, q ∈ fb_hp_X9_sign) q (hfz q hq)) (d + 4)) hw63 hf64 ⟨(hx_ti (G := G) (lo := 0) (hi := 255) (by omega) (by omega)), trivial⟩ trivial (fun w119 z124 hw120 hf121 m122 a125 b126 u127 => ?_)
          rw [u127.1]
          have u128 := u127.2 _ _ rfl rfl
          refine hx_pi (l := 26) (as := [.ref o, .int z124]) rfl rfl (hx_iv (j := 152) (n := 1) (o := o) (r := []) rfl rfl gA72 rfl) (hp_X9_takes0 (fz := fz) hF (pc := pc) (pp := pp) (fc := fc) (fp := fp) (tk := tq) (e := e) (bd := bq) (io := io) (fw := fw) (lw := lw) hok ⟨by omega, by omega⟩ (fun q hq => (by decide +kernel : ∀ q ∈ fb_hr_readTerm, q ∈ fb_hp_X9_takes0) q (hfz q hq)) (d + 3)) hw63 hf64 ⟨(hx_tr (G := G) (s := 30) (b := 0) hG0 (by decide)), (hx_ti (G := G) (lo := 1) (hi := 355) (by omega) (by omega)), trivial⟩ (fun o1 h1 => by cases h1; exact ⟨_, gA72, iA73, iB74, iC75, iD76, iE77, iF78, iG79, iH80, gC81, gP82⟩) (fun w129 z134 hw130 hf131 m132 a135 b136 u137 => ?_)
          have hs133 := ty_same_tr hs66 m132
          rcases u137 _ _ _ rfl rfl with ⟨hz150, hb151, hg152, tN153, ⟨fsN138, gA139, iA140, iB141, iC142, iD143, iE144, iF145, iG146, iH147, gC148, gP149⟩, ht154, hu155⟩ | ⟨hz150, hg152, ⟨fsN138, gA139, iA140, iB141, iC142, iD143, iE144, iF145, iG146, iH147, gC148, gP149⟩⟩
          · -- taken 1
            refine hx_if_ne (l := 29) rfl rfl (fun h156 => ?_) (fun h156 => by omega)
            refine ax_go 2 (y := (43, [some (.ref o), some (.int l)], [.int l, .ref o], w129, 0, 0)) rfl trivial ?_
            refine hx_p0 (l := 46) (as := [.ref o, .int l]) rfl rfl (hx_iv (j := 165) (n := 1) (o := o) (r := []) rfl rfl gA139 rfl) (ihreadPart pc pp fc fp tN153 e bq io fw lw (d + 5) hok ⟨by omega, by omega⟩ (by omega)) hw130 hf131 ⟨(hx_tr (G := G) (s := 30) (b := 0) hG0 (by decide)), (hx_ti (G := G) (lo := 0) (hi := 8) (by omega) (by omega)), trivial⟩ (fun o1 l1 h1 => by cases h1; exact ⟨⟨_, gA139, iA140, iB141, iC142, iD143, iE144, iF145, iG146, iH147, gC148, gP149⟩, by omega⟩) (fun w157 hw158 hf159 m160 u165 => ?_)
            have hs161 := ty_same_tr hs133 m160
            obtain ⟨tN178, bN179, ⟨fsN166, gA167, iA168, iB169, iC170, iD171, iE172, iF173, iG174, iH175, gC176, gP177⟩, ⟨ha180, hb181⟩, hN182⟩ := u165 _ rfl
            try dsimp only at hN182
            refine ax_go 1 (y := (5, [some (.ref o), some (.int l)], [], w157, 0, 0)) rfl trivial ?_
            exact ih5 w157 tN178 bN179 hw158 hf159 hs161 ⟨_, gA167, iC170⟩ ⟨_, gA167, iE172⟩ ⟨_, gA167, iA168⟩ ⟨_, gA167, iB169⟩ ⟨_, gA167, iD171⟩ ⟨_, gA167, iF173⟩ ⟨_, gA167, iG174⟩ ⟨_, gA167, iH175⟩ gC176 gP177 (by omega) (by omega) (fun hb => ⟨(hgq (hN182 hb).1).1, fun q hq => (hgq (hN182 hb).1).2 q (gp_tl (by omega) (by rw [show tq.toInt.toNat + 1 = tN153.toInt.toNat by omega]; exact (hN182 hb).2) hq)⟩) (by omega)
          · -- taken 0
            refine hx_if_ne (l := 29) rfl rfl (fun h183 => by omega) (fun h183 => ?_)
            refine ax_go 1 (y := (30, [some (.ref o), some (.int l)], [.ref o], w129, 0, 0)) rfl trivial ?_
            refine hx_k (l := 32) (m := 37) rfl rfl (by decide) (fun z184 h185 => ?_)
            refine hx_pi (l := 35) (as := [.int z184]) rfl rfl rfl (hp_X9_sign (fz := fz) hF (fun q hq => (by decide +kernel : ∀ q ∈ fb_hr_readTerm, q ∈ fb_hp_X9_sign) q (hfz q hq)) (d + 4)) hw130 hf131 ⟨(hx_ti (G := G) (lo := 0) (hi := 255) (by omega) (by omega)), trivial⟩ trivial (fun w186 z191 hw187 hf188 m189 a192 b193 u194 => ?_)
            rw [u194.1]
            have u195 := u194.2 _ _ rfl rfl
            refine hx_pi (l := 38) (as := [.ref o, .int z191]) rfl rfl (hx_iv (j := 152) (n := 1) (o := o) (r := []) rfl rfl gA139 rfl) (hp_X9_takes0 (fz := fz) hF (pc := pc) (pp := pp) (fc := fc) (fp := fp) (tk := tq) (e := e) (bd := bq) (io := io) (fw := fw) (lw := lw) hok ⟨by omega, by omega⟩ (fun q hq => (by decide +kernel : ∀ q ∈ fb_hr_readTerm, q ∈ fb_hp_X9_takes0) q (hfz q hq)) (d + 3)) hw130 hf131 ⟨(hx_tr (G := G) (s := 30) (b := 0) hG0 (by decide)), (hx_ti (G := G) (lo := 1) (hi := 355) (by omega) (by omega)), trivial⟩ (fun o1 h1 => by cases h1; exact ⟨_, gA139, iA140, iB141, iC142, iD143, iE144, iF145, iG146, iH147, gC148, gP149⟩) (fun w196 z201 hw197 hf198 m199 a202 b203 u204 => ?_)
            have hs200 := ty_same_tr hs133 m199
            rcases u204 _ _ _ rfl rfl with ⟨hz217, hb218, hg219, tN220, ⟨fsN205, gA206, iA207, iB208, iC209, iD210, iE211, iF212, iG213, iH214, gC215, gP216⟩, ht221, hu222⟩ | ⟨hz217, hg219, ⟨fsN205, gA206, iA207, iB208, iC209, iD210, iE211, iF212, iG213, iH214, gC215, gP216⟩⟩
            · -- taken 1
              refine hx_if_eq (l := 41) rfl rfl (fun h223 => by omega) (fun h223 => ?_)
              refine ax_go 2 (y := (43, [some (.ref o), some (.int l)], [.int l, .ref o], w196, 0, 0)) rfl trivial ?_
              refine hx_p0 (l := 46) (as := [.ref o, .int l]) rfl rfl (hx_iv (j := 165) (n := 1) (o := o) (r := []) rfl rfl gA206 rfl) (ihreadPart pc pp fc fp tN220 e bq io fw lw (d + 5) hok ⟨by omega, by omega⟩ (by omega)) hw197 hf198 ⟨(hx_tr (G := G) (s := 30) (b := 0) hG0 (by decide)), (hx_ti (G := G) (lo := 0) (hi := 8) (by omega) (by omega)), trivial⟩ (fun o1 l1 h1 => by cases h1; exact ⟨⟨_, gA206, iA207, iB208, iC209, iD210, iE211, iF212, iG213, iH214, gC215, gP216⟩, by omega⟩) (fun w224 hw225 hf226 m227 u232 => ?_)
              have hs228 := ty_same_tr hs200 m227
              obtain ⟨tN245, bN246, ⟨fsN233, gA234, iA235, iB236, iC237, iD238, iE239, iF240, iG241, iH242, gC243, gP244⟩, ⟨ha247, hb248⟩, hN249⟩ := u232 _ rfl
              try dsimp only at hN249
              refine ax_go 1 (y := (5, [some (.ref o), some (.int l)], [], w224, 0, 0)) rfl trivial ?_
              exact ih5 w224 tN245 bN246 hw225 hf226 hs228 ⟨_, gA234, iC237⟩ ⟨_, gA234, iE239⟩ ⟨_, gA234, iA235⟩ ⟨_, gA234, iB236⟩ ⟨_, gA234, iD238⟩ ⟨_, gA234, iF240⟩ ⟨_, gA234, iG241⟩ ⟨_, gA234, iH242⟩ gC243 gP244 (by omega) (by omega) (fun hb => ⟨(hgq (hN249 hb).1).1, fun q hq => (hgq (hN249 hb).1).2 q (gp_tl (by omega) (by rw [show tq.toInt.toNat + 1 = tN220.toInt.toNat by omega]; exact (hN249 hb).2) hq)⟩) (by omega)
            · -- taken 0
              refine hx_if_eq (l := 41) rfl rfl (fun h250 => ?_) (fun h250 => by omega)
              exact ax_ret rfl rfl trivial ⟨none, _, rfl, hw197, hf198, hs200, trivial, (fun o1 h1 => by cases h1; exact ⟨tq, bq, ⟨_, gA206, iA207, iB208, iC209, iD210, iE211, iF212, iG213, iH214, gC215, gP216⟩, ⟨by omega, by omega⟩, by (try dsimp only); exact (fun hb => ⟨(hgq hb).1, (hgq hb).2 _ (gp_tl0 (by omega))⟩)⟩)⟩
    change ab_wp ro (ab_Ev ro ab_codes (d + 5)) 9 false none ab_k_X9_readTerm (fun o_1 => ∃ v w1, o_1 = (v, w1, 0, 0) ∧ ty_w sp_ G w1 ∧ (F9 G F) w1 ∧ ty_same G fz w w1 ∧ ck_res G none v ∧ (paR pc pp fc fp tk e bd io fw lw (fun t => GP (cd fc) e.toInt.toNat (decide (io.toInt ≠ 0)) b 1 tk.toInt.toNat t.toInt.toNat)) ([.ref o, .int l] : List Value) w v w1) (0, [some (.ref o), some (.int l)], [], w, 0, 0)
    refine ax_go 2 (y := (2, [some (.ref o), some (.int l)], [.int l, .ref o], w, 0, 0)) rfl trivial ?_
    refine hx_p0 (l := 5) (as := [.ref o, .int l]) rfl rfl (hx_iv (j := 165) (n := 1) (o := o) (r := []) rfl rfl g0 rfl) (ihreadPart pc pp fc fp tk e bd io fw lw (d + 5) hok ⟨by omega, by omega⟩ (by omega)) hw hf ⟨(hx_tr (G := G) (s := 30) (b := 0) hG0 (by decide)), (hx_ti (G := G) (lo := 0) (hi := 8) (by omega) (by omega)), trivial⟩ (fun o1 l1 h1 => by cases h1; exact ⟨⟨_, g0, i15, i17, i19, i18, i21, i10, i8, i9, gc0, gp0⟩, by omega⟩) (fun w251 hw252 hf253 m254 u259 => ?_)
    have hs255 := ty_same_tr (ty_same_rf w) m254
    obtain ⟨tN272, bN273, ⟨fsN260, gA261, iA262, iB263, iC264, iD265, iE266, iF267, iG268, iH269, gC270, gP271⟩, ⟨ha274, hb275⟩, hN276⟩ := u259 _ rfl
    try dsimp only at hN276
    exact ct5 _ w251 tN272 bN273 hw252 hf253 hs255 ⟨_, gA261, iC264⟩ ⟨_, gA261, iE266⟩ ⟨_, gA261, iA262⟩ ⟨_, gA261, iB263⟩ ⟨_, gA261, iD265⟩ ⟨_, gA261, iF267⟩ ⟨_, gA261, iG268⟩ ⟨_, gA261, iH269⟩ gC270 gP271 (by omega) (by omega) (fun hb => ⟨(hN276 hb).1, fun q hq => gp_term (hN276 hb).2 hq⟩) (Nat.lt_succ_self _)
def fb_hr_readSum : List (Nat × Nat) := [(8, 3), (8, 5), (19, 999), (32, 999), (33, 999), (34, 999), (35, 999), (44, 999), (45, 999), (1, 0), (18, 999), (2, 11), (2, 14), (1, 15), (54, 11), (4, 2), (7, 9), (30, 13), (30, 34), (30, 2), (30, 22), (30, 23), (30, 24), (30, 25), (46, 999), (47, 999), (30, 35), (30, 36), (7, 0), (24, 999), (37, 999), (30, 4), (30, 5), (30, 6), (30, 8), (30, 9), (30, 10), (30, 11), (30, 14), (30, 15), (30, 16), (30, 17), (30, 18), (30, 20), (30, 21), (39, 999), (40, 999), (41, 999), (30, 30), (30, 42), (30, 43), (30, 44), (1, 1), (1, 3), (1, 10), (1, 13), (8, 0), (30, 49), (2, 15), (8, 1)]
set_option maxHeartbeats 8000000 in
theorem hr_readSum {ro : ab_R} {G : Nat → Nat} {fz : List (Nat × Nat)} {F : ab_W → Prop} (hF : ∀ w w', smt G w w' → F w → F w') (d : Nat) {pc pp : Nat} {fc fp : Nat → Int32} {tk e bd io fw lw : Int32} (hok : pa_ok fc fp e io fw lw) (htk : 0 ≤ tk.toInt ∧ tk.toInt ≤ e.toInt) {b : Nat} (hD : 6 * b + 8 ≤ d + 6) (ihreadTerm : ReK ro G F fz b 1 164 7) (hfz : ∀ q ∈ fz, q ∈ fb_hr_readSum) : hx_ct ro sp_ G (F9 G F) fz (ab_Ev ro ab_codes (d + 6)) 163 [(2, 30, 0), (0, 0, 8)] none (paPd pc pp fc fp tk e bd io fw lw b) (paR pc pp fc fp tk e bd io fw lw (fun t => GP (cd fc) e.toInt.toNat (decide (io.toInt ≠ 0)) b 2 tk.toInt.toNat t.toInt.toNat)) := by
  have hFF := F9_same hF
  refine hx_hand (d := d + 5) (by decide) (fun as w hw hf has hP => ?_)
  match as, has with
  | [v0, v1], ⟨h0, h1, _⟩ =>
    obtain ⟨o, rfl, _, hG0⟩ := ty_refn h0 rfl rfl
    replace hG0 : G o = 30 := hG0
    obtain ⟨l, rfl, hl1, hh1⟩ := ty_int h1 rfl
    replace hl1 : (0 : Int) ≤ l.toInt := hl1
    replace hh1 : l.toInt ≤ 8 := hh1
    refine ⟨rfl, ?_⟩
    obtain ⟨fs0, g0, i15, i17, i19, i18, i21, i10, i8, i9, gc0, gp0⟩ := (hP o l rfl).1
    obtain ⟨⟨he0, he1⟩, hz0, hpl, -, -⟩ := id hok
    have hfw := pa_fw hok
    have hG_pc := pa_r15 hw g0 hG0 i15
    have hG_pp := pa_r17 hw g0 hG0 i17
    have hl8 := (hP o l rfl).2
    have ct5 : ∀ (nq : Nat) (w1 : ab_W) (tq : Int32) (bq : Int32), ty_w sp_ G w1 → (F9 G F) w1 → ty_same G fz w w1 → (hx_has w1 o 9 19 (.int tq)) → (hx_has w1 o 9 21 (.int bq)) → (hx_has w1 o 9 15 (.ref pc)) → (hx_has w1 o 9 17 (.ref pp)) → (hx_has w1 o 9 18 (.int e)) → (hx_has w1 o 9 10 (.int io)) → (hx_has w1 o 9 8 (.int fw)) → (hx_has w1 o 9 9 (.int lw)) → (w1[pc]? = some (.inl (0, 401, .inl fc))) → (w1[pp]? = some (.inl (0, 401, .inl fp))) → (tk.toInt ≤ tq.toInt) → (tq.toInt ≤ e.toInt) → (bq.toInt = -1 → bd.toInt = -1 ∧ ∀ q, GP (cd fc) e.toInt.toNat (decide (io.toInt ≠ 0)) b 4 tq.toInt.toNat q → GP (cd fc) e.toInt.toNat (decide (io.toInt ≠ 0)) b 2 tk.toInt.toNat q) → (401 - tq.toInt).toNat < nq → ab_wp ro (ab_Ev ro ab_codes (d + 5)) 9 false none ab_k_X9_readSum (fun o_1 => ∃ v w1, o_1 = (v, w1, 0, 0) ∧ ty_w sp_ G w1 ∧ (F9 G F) w1 ∧ ty_same G fz w w1 ∧ ck_res G none v ∧ (paR pc pp fc fp tk e bd io fw lw (fun t => GP (cd fc) e.toInt.toNat (decide (io.toInt ≠ 0)) b 2 tk.toInt.toNat t.toInt.toNat)) ([.ref o, .int l] : List Value) w v w1) (5, [some (.ref o), some (.int l)], [], w1, 0, 0) := by
      intro nq
      induction nq with
      | zero => intro w1 tq bq hw14 hf15 hs16 hh2 hh3 hh4 hh5 hh6 hh7 hh8 hh9 g10 g11 i12 i13 hgq hm; exact absurd hm (Nat.not_lt_zero _)
      | succ nq ih5 =>
        intro w1 tq bq hw14 hf15 hs16 hh2 hh3 hh4 hh5 hh6 hh7 hh8 hh9 g10 g11 i12 i13 hgq hm5
        obtain ⟨fs17, g18, e19⟩ := hh2
        have q20 := hx_oq hw14 g18 hG0 (s := 30) rfl
        obtain ⟨x21, e22, a23, b24⟩ := hx_fi (k := 19) (lo := 0) (hi := 400) q20 rfl
        obtain rfl : tq = x21 := hx_inji e19 e22
        obtain ⟨fs25, g26, e27⟩ := hh3
        obtain rfl : fs17 = fs25 := hx_inj g18 g26
        obtain ⟨x28, e29, a30, b31⟩ := hx_fi (k := 21) (lo := (-2147483648)) (hi := 2147483647) q20 rfl
        obtain rfl : bq = x28 := hx_inji e27 e29
        obtain ⟨fs32, g33, e34⟩ := hh4
        obtain rfl : fs17 = fs32 := hx_inj g18 g33
        obtain ⟨fs35, g36, e37⟩ := hh5
        obtain rfl : fs17 = fs35 := hx_inj g18 g36
        obtain ⟨fs38, g39, e40⟩ := hh6
        obtain rfl : fs17 = fs38 := hx_inj g18 g39
        obtain ⟨fs41, g42, e43⟩ := hh7
        obtain rfl : fs17 = fs41 := hx_inj g18 g42
        obtain ⟨fs44, g45, e46⟩ := hh8
        obtain rfl : fs17 = fs44 := hx_inj g18 g45
        obtain ⟨fs47, g48, e49⟩ := hh9
        obtain rfl : fs17 = fs47 := hx_inj g18 g48
        refine ax_go 1 (y := (6, [some (.ref o), some (.int l)], [.ref o], w1, 0, 0)) rfl trivial ?_
        refine hx_k (l := 8) (m := 43) rfl rfl (by decide) (fun z50 h51 => ?_)
        refine hx_pi (l := 11) (as := [.int z50]) rfl rfl rfl (hp_X9_sign (fz := fz) hF (fun q hq => (by decide +kernel : ∀ q ∈ fb_hr_readSum, q ∈ fb_hp_X9_sign) q (hfz q hq)) (d + 4)) hw14 hf15 ⟨(hx_ti (G := G) (lo := 0) (hi := 255) (by omega) (by omega)), trivial⟩ trivial (fun w52 z57 hw53 hf54 m55 a58 b59 u60 => ?_)
        rw [u60.1]
        have u61 := u60.2 _ _ rfl rfl
        refine hx_pi (l := 14) (as := [.ref o, .int z57]) rfl rfl (hx_iv (j := 152) (n := 1) (o := o) (r := []) rfl rfl g18 rfl) (hp_X9_takes0 (fz := fz) hF (pc := pc) (pp := pp) (fc := fc) (fp := fp) (tk := tq) (e := e) (bd := bq) (io := io) (fw := fw) (lw := lw) hok ⟨by omega, by omega⟩ (fun q hq => (by decide +kernel : ∀ q ∈ fb_hr_readSum, q ∈ fb_hp_X9_takes0) q (hfz q hq)) (d + 3)) hw14 hf15 ⟨(hx_tr (G := G) (s := 30) (b := 0) hG0 (by decide)), (hx_ti (G := G) (lo := 1) (hi := 355) (by omega) (by omega)), trivial⟩ (fun o1 h1 => by cases h1; exact ⟨_, g18, e34, e37, e19, e40, e27, e43, e46, e49, g10, g11⟩) (fun w62 z67 hw63 hf64 m65 a68 b69 u70 => ?_)
        have hs66 := ty_same_tr hs16 m65
        rcases u70 _ _ _ rfl rfl with ⟨hz83, hb84, hg85, tN86, ⟨fsN71, gA72, iA73, iB74, iC75, iD76, iE77, iF78, iG79, iH80, gC81, gP82⟩, ht87, hu88⟩ | ⟨hz83, hg85, ⟨fsN71, gA72, iA73, iB74, iC75, iD76, iE77, iF78, iG79, iH80, gC81, gP82⟩⟩
        · -- taken 1
          refine hx_if_ne (l := 17) rfl rfl (fun h89 => ?_) (fun h89 => by omega)
          refine ax_go 2 (y := (31, [some (.ref o), some (.int l)], [.int l, .ref o], w62, 0, 0)) rfl trivial ?_
          refine hx_p0 (l := 34) (as := [.ref o, .int l]) rfl rfl (hx_iv (j := 164) (n := 1) (o := o) (r := []) rfl rfl gA72 rfl) (ihreadTerm pc pp fc fp tN86 e bq io fw lw (d + 5) hok ⟨by omega, by omega⟩ (by omega)) hw63 hf64 ⟨(hx_tr (G := G) (s := 30) (b := 0) hG0 (by decide)), (hx_ti (G := G) (lo := 0) (hi := 8) (by omega) (by omega)), trivial⟩ (fun o1 l1 h1 => by cases h1; exact ⟨⟨_, gA72, iA73, iB74, iC75, iD76, iE77, iF78, iG79, iH80, gC81, gP82⟩, by omega⟩) (fun w90 hw91 hf92 m93 u98 => ?_)
          have hs94 := ty_same_tr hs66 m93
          obtain ⟨tN111, bN112, ⟨fsN99, gA100, iA101, iB102, iC103, iD104, iE105, iF106, iG107, iH108, gC109, gP110⟩, ⟨ha113, hb114⟩, hN115⟩ := u98 _ rfl
          try dsimp only at hN115
          refine ax_go 1 (y := (5, [some (.ref o), some (.int l)], [], w90, 0, 0)) rfl trivial ?_
          exact ih5 w90 tN111 bN112 hw91 hf92 hs94 ⟨_, gA100, iC103⟩ ⟨_, gA100, iE105⟩ ⟨_, gA100, iA101⟩ ⟨_, gA100, iB102⟩ ⟨_, gA100, iD104⟩ ⟨_, gA100, iF106⟩ ⟨_, gA100, iG107⟩ ⟨_, gA100, iH108⟩ gC109 gP110 (by omega) (by omega) (fun hb => ⟨(hgq (hN115 hb).1).1, fun q hq => (hgq (hN115 hb).1).2 q (gp_sl (by omega) (by rw [show tq.toInt.toNat + 1 = tN86.toInt.toNat by omega]; exact (hN115 hb).2) hq)⟩) (by omega)
        · -- taken 0
          refine hx_if_ne (l := 17) rfl rfl (fun h116 => by omega) (fun h116 => ?_)
          refine ax_go 1 (y := (18, [some (.ref o), some (.int l)], [.ref o], w62, 0, 0)) rfl trivial ?_
          refine hx_k (l := 20) (m := 45) rfl rfl (by decide) (fun z117 h118 => ?_)
          refine hx_pi (l := 23) (as := [.int z117]) rfl rfl rfl (hp_X9_sign (fz := fz) hF (fun q hq => (by decide +kernel : ∀ q ∈ fb_hr_readSum, q ∈ fb_hp_X9_sign) q (hfz q hq)) (d + 4)) hw63 hf64 ⟨(hx_ti (G := G) (lo := 0) (hi := 255) (by omega) (by omega)), trivial⟩ trivial (fun w119 z124 hw120 hf121 m122 a125 b126 u127 => ?_)
          rw [u127.1]
          have u128 := u127.2 _ _ rfl rfl
          refine hx_pi (l := 26) (as := [.ref o, .int z124]) rfl rfl (hx_iv (j := 152) (n := 1) (o := o) (r := []) rfl rfl gA72 rfl) (hp_X9_takes0 (fz := fz) hF (pc := pc) (pp := pp) (fc := fc) (fp := fp) (tk := tq) (e := e) (bd := bq) (io := io) (fw := fw) (lw := lw) hok ⟨by omega, by omega⟩ (fun q hq => (by decide +kernel : ∀ q ∈ fb_hr_readSum, q ∈ fb_hp_X9_takes0) q (hfz q hq)) (d + 3)) hw63 hf64 ⟨(hx_tr (G := G) (s := 30) (b := 0) hG0 (by decide)), (hx_ti (G := G) (lo := 1) (hi := 355) (by omega) (by omega)), trivial⟩ (fun o1 h1 => by cases h1; exact ⟨_, gA72, iA73, iB74, iC75, iD76, iE77, iF78, iG79, iH80, gC81, gP82⟩) (fun w129 z134 hw130 hf131 m132 a135 b136 u137 => ?_)
          have hs133 := ty_same_tr hs66 m132
          rcases u137 _ _ _ rfl rfl with ⟨hz150, hb151, hg152, tN153, ⟨fsN138, gA139, iA140, iB141, iC142, iD143, iE144, iF145, iG146, iH147, gC148, gP149⟩, ht154, hu155⟩ | ⟨hz150, hg152, ⟨fsN138, gA139, iA140, iB141, iC142, iD143, iE144, iF145, iG146, iH147, gC148, gP149⟩⟩
          · -- taken 1
            refine hx_if_eq (l := 29) rfl rfl (fun h156 => by omega) (fun h156 => ?_)
            refine ax_go 2 (y := (31, [some (.ref o), some (.int l)], [.int l, .ref o], w129, 0, 0)) rfl trivial ?_
            refine hx_p0 (l := 34) (as := [.ref o, .int l]) rfl rfl (hx_iv (j := 164) (n := 1) (o := o) (r := []) rfl rfl gA139 rfl) (ihreadTerm pc pp fc fp tN153 e bq io fw lw (d + 5) hok ⟨by omega, by omega⟩ (by omega)) hw130 hf131 ⟨(hx_tr (G := G) (s := 30) (b := 0) hG0 (by decide)), (hx_ti (G := G) (lo := 0) (hi := 8) (by omega) (by omega)), trivial⟩ (fun o1 l1 h1 => by cases h1; exact ⟨⟨_, gA139, iA140, iB141, iC142, iD143, iE144, iF145, iG146, iH147, gC148, gP149⟩, by omega⟩) (fun w157 hw158 hf159 m160 u165 => ?_)
            have hs161 := ty_same_tr hs133 m160
            obtain ⟨tN178, bN179, ⟨fsN166, gA167, iA168, iB169, iC170, iD171, iE172, iF173, iG174, iH175, gC176, gP177⟩, ⟨ha180, hb181⟩, hN182⟩ := u165 _ rfl
            try dsimp only at hN182
            refine ax_go 1 (y := (5, [some (.ref o), some (.int l)], [], w157, 0, 0)) rfl trivial ?_
            exact ih5 w157 tN178 bN179 hw158 hf159 hs161 ⟨_, gA167, iC170⟩ ⟨_, gA167, iE172⟩ ⟨_, gA167, iA168⟩ ⟨_, gA167, iB169⟩ ⟨_, gA167, iD171⟩ ⟨_, gA167, iF173⟩ ⟨_, gA167, iG174⟩ ⟨_, gA167, iH175⟩ gC176 gP177 (by omega) (by omega) (fun hb => ⟨(hgq (hN182 hb).1).1, fun q hq => (hgq (hN182 hb).1).2 q (gp_sl (by omega) (by rw [show tq.toInt.toNat + 1 = tN153.toInt.toNat by omega]; exact (hN182 hb).2) hq)⟩) (by omega)
          · -- taken 0
            refine hx_if_eq (l := 29) rfl rfl (fun h183 => ?_) (fun h183 => by omega)
            exact ax_ret rfl rfl trivial ⟨none, _, rfl, hw130, hf131, hs133, trivial, (fun o1 h1 => by cases h1; exact ⟨tq, bq, ⟨_, gA139, iA140, iB141, iC142, iD143, iE144, iF145, iG146, iH147, gC148, gP149⟩, ⟨by omega, by omega⟩, by (try dsimp only); exact (fun hb => ⟨(hgq hb).1, (hgq hb).2 _ (gp_sl0 (by omega))⟩)⟩)⟩
    change ab_wp ro (ab_Ev ro ab_codes (d + 5)) 9 false none ab_k_X9_readSum (fun o_1 => ∃ v w1, o_1 = (v, w1, 0, 0) ∧ ty_w sp_ G w1 ∧ (F9 G F) w1 ∧ ty_same G fz w w1 ∧ ck_res G none v ∧ (paR pc pp fc fp tk e bd io fw lw (fun t => GP (cd fc) e.toInt.toNat (decide (io.toInt ≠ 0)) b 2 tk.toInt.toNat t.toInt.toNat)) ([.ref o, .int l] : List Value) w v w1) (0, [some (.ref o), some (.int l)], [], w, 0, 0)
    refine ax_go 2 (y := (2, [some (.ref o), some (.int l)], [.int l, .ref o], w, 0, 0)) rfl trivial ?_
    refine hx_p0 (l := 5) (as := [.ref o, .int l]) rfl rfl (hx_iv (j := 164) (n := 1) (o := o) (r := []) rfl rfl g0 rfl) (ihreadTerm pc pp fc fp tk e bd io fw lw (d + 5) hok ⟨by omega, by omega⟩ (by omega)) hw hf ⟨(hx_tr (G := G) (s := 30) (b := 0) hG0 (by decide)), (hx_ti (G := G) (lo := 0) (hi := 8) (by omega) (by omega)), trivial⟩ (fun o1 l1 h1 => by cases h1; exact ⟨⟨_, g0, i15, i17, i19, i18, i21, i10, i8, i9, gc0, gp0⟩, by omega⟩) (fun w184 hw185 hf186 m187 u192 => ?_)
    have hs188 := ty_same_tr (ty_same_rf w) m187
    obtain ⟨tN205, bN206, ⟨fsN193, gA194, iA195, iB196, iC197, iD198, iE199, iF200, iG201, iH202, gC203, gP204⟩, ⟨ha207, hb208⟩, hN209⟩ := u192 _ rfl
    try dsimp only at hN209
    exact ct5 _ w184 tN205 bN206 hw185 hf186 hs188 ⟨_, gA194, iC197⟩ ⟨_, gA194, iE199⟩ ⟨_, gA194, iA195⟩ ⟨_, gA194, iB196⟩ ⟨_, gA194, iD198⟩ ⟨_, gA194, iF200⟩ ⟨_, gA194, iG201⟩ ⟨_, gA194, iH202⟩ gC203 gP204 (by omega) (by omega) (fun hb => ⟨(hN209 hb).1, fun q hq => gp_sum (hN209 hb).2 hq⟩) (Nat.lt_succ_self _)
def fb_hr_readBoth : List (Nat × Nat) := [(8, 3), (8, 5), (19, 999), (32, 999), (33, 999), (34, 999), (35, 999), (44, 999), (45, 999), (1, 0), (18, 999), (2, 11), (2, 14), (1, 15), (54, 11), (4, 2), (7, 9), (30, 13), (30, 34), (30, 2), (30, 22), (30, 23), (30, 24), (30, 25), (46, 999), (47, 999), (30, 35), (30, 36), (7, 0), (24, 999), (37, 999), (30, 4), (30, 5), (30, 6), (30, 8), (30, 9), (30, 10), (30, 11), (30, 14), (30, 15), (30, 16), (30, 17), (30, 18), (30, 20), (30, 21), (39, 999), (40, 999), (41, 999), (30, 30), (30, 42), (30, 43), (30, 44), (1, 1), (1, 3), (1, 10), (1, 13), (8, 0), (30, 49), (2, 15), (8, 1)]
set_option maxHeartbeats 8000000 in
theorem hr_readBoth {ro : ab_R} {G : Nat → Nat} {fz : List (Nat × Nat)} {F : ab_W → Prop} (hF : ∀ w w', smt G w w' → F w → F w') (d : Nat) {pc pp : Nat} {fc fp : Nat → Int32} {tk e bd io fw lw : Int32} (hok : pa_ok fc fp e io fw lw) (htk : 0 ≤ tk.toInt ∧ tk.toInt ≤ e.toInt) {b : Nat} (hD : 6 * b + 11 ≤ d + 6) (ihreadPlain : ReK ro G F fz b 6 162 10) (hfz : ∀ q ∈ fz, q ∈ fb_hr_readBoth) : hx_ct ro sp_ G (F9 G F) fz (ab_Ev ro ab_codes (d + 6)) 161 [(2, 30, 0), (0, 0, 8)] none (paPd pc pp fc fp tk e bd io fw lw b) (paR pc pp fc fp tk e bd io fw lw (fun t => GP (cd fc) e.toInt.toNat (decide (io.toInt ≠ 0)) b 7 tk.toInt.toNat t.toInt.toNat)) := by
  have hFF := F9_same hF
  refine hx_hand (d := d + 5) (by decide) (fun as w hw hf has hP => ?_)
  match as, has with
  | [v0, v1], ⟨h0, h1, _⟩ =>
    obtain ⟨o, rfl, _, hG0⟩ := ty_refn h0 rfl rfl
    replace hG0 : G o = 30 := hG0
    obtain ⟨l, rfl, hl1, hh1⟩ := ty_int h1 rfl
    replace hl1 : (0 : Int) ≤ l.toInt := hl1
    replace hh1 : l.toInt ≤ 8 := hh1
    refine ⟨rfl, ?_⟩
    obtain ⟨fs0, g0, i15, i17, i19, i18, i21, i10, i8, i9, gc0, gp0⟩ := (hP o l rfl).1
    obtain ⟨⟨he0, he1⟩, hz0, hpl, -, -⟩ := id hok
    have hfw := pa_fw hok
    have hG_pc := pa_r15 hw g0 hG0 i15
    have hG_pp := pa_r17 hw g0 hG0 i17
    have hl8 := (hP o l rfl).2
    have ct5 : ∀ (nq : Nat) (w1 : ab_W) (tq : Int32) (bq : Int32), ty_w sp_ G w1 → (F9 G F) w1 → ty_same G fz w w1 → (hx_has w1 o 9 19 (.int tq)) → (hx_has w1 o 9 21 (.int bq)) → (hx_has w1 o 9 15 (.ref pc)) → (hx_has w1 o 9 17 (.ref pp)) → (hx_has w1 o 9 18 (.int e)) → (hx_has w1 o 9 10 (.int io)) → (hx_has w1 o 9 8 (.int fw)) → (hx_has w1 o 9 9 (.int lw)) → (w1[pc]? = some (.inl (0, 401, .inl fc))) → (w1[pp]? = some (.inl (0, 401, .inl fp))) → (tk.toInt ≤ tq.toInt) → (tq.toInt ≤ e.toInt) → (bq.toInt = -1 → bd.toInt = -1 ∧ ∀ q, GP (cd fc) e.toInt.toNat (decide (io.toInt ≠ 0)) b 8 tq.toInt.toNat q → GP (cd fc) e.toInt.toNat (decide (io.toInt ≠ 0)) b 7 tk.toInt.toNat q) → (401 - tq.toInt).toNat < nq → ab_wp ro (ab_Ev ro ab_codes (d + 5)) 9 false none ab_k_X9_readBoth (fun o_1 => ∃ v w1, o_1 = (v, w1, 0, 0) ∧ ty_w sp_ G w1 ∧ (F9 G F) w1 ∧ ty_same G fz w w1 ∧ ck_res G none v ∧ (paR pc pp fc fp tk e bd io fw lw (fun t => GP (cd fc) e.toInt.toNat (decide (io.toInt ≠ 0)) b 7 tk.toInt.toNat t.toInt.toNat)) ([.ref o, .int l] : List Value) w v w1) (5, [some (.ref o), some (.int l)], [], w1, 0, 0) := by
      intro nq
      induction nq with
      | zero => intro w1 tq bq hw14 hf15 hs16 hh2 hh3 hh4 hh5 hh6 hh7 hh8 hh9 g10 g11 i12 i13 hgq hm; exact absurd hm (Nat.not_lt_zero _)
      | succ nq ih5 =>
        intro w1 tq bq hw14 hf15 hs16 hh2 hh3 hh4 hh5 hh6 hh7 hh8 hh9 g10 g11 i12 i13 hgq hm5
        obtain ⟨fs17, g18, e19⟩ := hh2
        have q20 := hx_oq hw14 g18 hG0 (s := 30) rfl
        obtain ⟨x21, e22, a23, b24⟩ := hx_fi (k := 19) (lo := 0) (hi := 400) q20 rfl
        obtain rfl : tq = x21 := hx_inji e19 e22
        obtain ⟨fs25, g26, e27⟩ := hh3
        obtain rfl : fs17 = fs25 := hx_inj g18 g26
        obtain ⟨x28, e29, a30, b31⟩ := hx_fi (k := 21) (lo := (-2147483648)) (hi := 2147483647) q20 rfl
        obtain rfl : bq = x28 := hx_inji e27 e29
        obtain ⟨fs32, g33, e34⟩ := hh4
        obtain rfl : fs17 = fs32 := hx_inj g18 g33
        obtain ⟨fs35, g36, e37⟩ := hh5
        obtain rfl : fs17 = fs35 := hx_inj g18 g36
        obtain ⟨fs38, g39, e40⟩ := hh6
        obtain rfl : fs17 = fs38 := hx_inj g18 g39
        obtain ⟨fs41, g42, e43⟩ := hh7
        obtain rfl : fs17 = fs41 := hx_inj g18 g42
        obtain ⟨fs44, g45, e46⟩ := hh8
        obtain rfl : fs17 = fs44 := hx_inj g18 g45
        obtain ⟨fs47, g48, e49⟩ := hh9
        obtain rfl : fs17 = fs47 := hx_inj g18 g48
        refine ax_go 1 (y := (6, [some (.ref o), some (.int l)], [.ref o], w1, 0, 0)) rfl trivial ?_
        refine hx_k (l := 8) (m := 7) rfl rfl (by decide) (fun z50 h51 => ?_)
        refine hx_pi (l := 11) (as := [.ref o, .int z50]) rfl rfl (hx_iv (j := 152) (n := 1) (o := o) (r := []) rfl rfl g18 rfl) (hp_X9_takes0 (fz := fz) hF (pc := pc) (pp := pp) (fc := fc) (fp := fp) (tk := tq) (e := e) (bd := bq) (io := io) (fw := fw) (lw := lw) hok ⟨by omega, by omega⟩ (fun q hq => (by decide +kernel : ∀ q ∈ fb_hr_readBoth, q ∈ fb_hp_X9_takes0) q (hfz q hq)) (d + 3)) hw14 hf15 ⟨(hx_tr (G := G) (s := 30) (b := 0) hG0 (by decide)), (hx_ti (G := G) (lo := 1) (hi := 355) (by omega) (by omega)), trivial⟩ (fun o1 h1 => by cases h1; exact ⟨_, g18, e34, e37, e19, e40, e27, e43, e46, e49, g10, g11⟩) (fun w52 z57 hw53 hf54 m55 a58 b59 u60 => ?_)
        have hs56 := ty_same_tr hs16 m55
        rcases u60 _ _ _ rfl rfl with ⟨hz73, hb74, hg75, tN76, ⟨fsN61, gA62, iA63, iB64, iC65, iD66, iE67, iF68, iG69, iH70, gC71, gP72⟩, ht77, hu78⟩ | ⟨hz73, hg75, ⟨fsN61, gA62, iA63, iB64, iC65, iD66, iE67, iF68, iG69, iH70, gC71, gP72⟩⟩
        · -- taken 1
          refine hx_if_eq (l := 14) rfl rfl (fun h79 => by omega) (fun h79 => ?_)
          refine ax_go 2 (y := (16, [some (.ref o), some (.int l)], [.int l, .ref o], w52, 0, 0)) rfl trivial ?_
          refine hx_p0 (l := 19) (as := [.ref o, .int l]) rfl rfl (hx_iv (j := 162) (n := 1) (o := o) (r := []) rfl rfl gA62 rfl) (ihreadPlain pc pp fc fp tN76 e bq io fw lw (d + 5) hok ⟨by omega, by omega⟩ (by omega)) hw53 hf54 ⟨(hx_tr (G := G) (s := 30) (b := 0) hG0 (by decide)), (hx_ti (G := G) (lo := 0) (hi := 8) (by omega) (by omega)), trivial⟩ (fun o1 l1 h1 => by cases h1; exact ⟨⟨_, gA62, iA63, iB64, iC65, iD66, iE67, iF68, iG69, iH70, gC71, gP72⟩, by omega⟩) (fun w80 hw81 hf82 m83 u88 => ?_)
          have hs84 := ty_same_tr hs56 m83
          obtain ⟨tN101, bN102, ⟨fsN89, gA90, iA91, iB92, iC93, iD94, iE95, iF96, iG97, iH98, gC99, gP100⟩, ⟨ha103, hb104⟩, hN105⟩ := u88 _ rfl
          try dsimp only at hN105
          refine ax_go 1 (y := (5, [some (.ref o), some (.int l)], [], w80, 0, 0)) rfl trivial ?_
          exact ih5 w80 tN101 bN102 hw81 hf82 hs84 ⟨_, gA90, iC93⟩ ⟨_, gA90, iE95⟩ ⟨_, gA90, iA91⟩ ⟨_, gA90, iB92⟩ ⟨_, gA90, iD94⟩ ⟨_, gA90, iF96⟩ ⟨_, gA90, iG97⟩ ⟨_, gA90, iH98⟩ gC99 gP100 (by omega) (by omega) (fun hb => ⟨(hgq (hN105 hb).1).1, fun q hq => (hgq (hN105 hb).1).2 q (gp_bl (by omega) (by rw [show tq.toInt.toNat + 1 = tN76.toInt.toNat by omega]; exact (hN105 hb).2) hq)⟩) (by omega)
        · -- taken 0
          refine hx_if_eq (l := 14) rfl rfl (fun h106 => ?_) (fun h106 => by omega)
          exact ax_ret rfl rfl trivial ⟨none, _, rfl, hw53, hf54, hs56, trivial, (fun o1 h1 => by cases h1; exact ⟨tq, bq, ⟨_, gA62, iA63, iB64, iC65, iD66, iE67, iF68, iG69, iH70, gC71, gP72⟩, ⟨by omega, by omega⟩, by (try dsimp only); exact (fun hb => ⟨(hgq hb).1, (hgq hb).2 _ (gp_bl0 (by omega))⟩)⟩)⟩
    change ab_wp ro (ab_Ev ro ab_codes (d + 5)) 9 false none ab_k_X9_readBoth (fun o_1 => ∃ v w1, o_1 = (v, w1, 0, 0) ∧ ty_w sp_ G w1 ∧ (F9 G F) w1 ∧ ty_same G fz w w1 ∧ ck_res G none v ∧ (paR pc pp fc fp tk e bd io fw lw (fun t => GP (cd fc) e.toInt.toNat (decide (io.toInt ≠ 0)) b 7 tk.toInt.toNat t.toInt.toNat)) ([.ref o, .int l] : List Value) w v w1) (0, [some (.ref o), some (.int l)], [], w, 0, 0)
    refine ax_go 2 (y := (2, [some (.ref o), some (.int l)], [.int l, .ref o], w, 0, 0)) rfl trivial ?_
    refine hx_p0 (l := 5) (as := [.ref o, .int l]) rfl rfl (hx_iv (j := 162) (n := 1) (o := o) (r := []) rfl rfl g0 rfl) (ihreadPlain pc pp fc fp tk e bd io fw lw (d + 5) hok ⟨by omega, by omega⟩ (by omega)) hw hf ⟨(hx_tr (G := G) (s := 30) (b := 0) hG0 (by decide)), (hx_ti (G := G) (lo := 0) (hi := 8) (by omega) (by omega)), trivial⟩ (fun o1 l1 h1 => by cases h1; exact ⟨⟨_, g0, i15, i17, i19, i18, i21, i10, i8, i9, gc0, gp0⟩, by omega⟩) (fun w107 hw108 hf109 m110 u115 => ?_)
    have hs111 := ty_same_tr (ty_same_rf w) m110
    obtain ⟨tN128, bN129, ⟨fsN116, gA117, iA118, iB119, iC120, iD121, iE122, iF123, iG124, iH125, gC126, gP127⟩, ⟨ha130, hb131⟩, hN132⟩ := u115 _ rfl
    try dsimp only at hN132
    exact ct5 _ w107 tN128 bN129 hw108 hf109 hs111 ⟨_, gA117, iC120⟩ ⟨_, gA117, iE122⟩ ⟨_, gA117, iA118⟩ ⟨_, gA117, iB119⟩ ⟨_, gA117, iD121⟩ ⟨_, gA117, iF123⟩ ⟨_, gA117, iG124⟩ ⟨_, gA117, iH125⟩ gC126 gP127 (by omega) (by omega) (fun hb => ⟨(hN132 hb).1, fun q hq => gp_both (hN132 hb).2 hq⟩) (Nat.lt_succ_self _)
def fb_hr_readTest : List (Nat × Nat) := [(8, 3), (8, 5), (19, 999), (32, 999), (33, 999), (34, 999), (35, 999), (44, 999), (45, 999), (1, 0), (18, 999), (2, 11), (2, 14), (1, 15), (54, 11), (4, 2), (7, 9), (30, 13), (30, 34), (30, 2), (30, 22), (30, 23), (30, 24), (30, 25), (46, 999), (47, 999), (30, 35), (30, 36), (7, 0), (24, 999), (37, 999), (30, 4), (30, 5), (30, 6), (30, 8), (30, 9), (30, 10), (30, 11), (30, 14), (30, 15), (30, 16), (30, 17), (30, 18), (30, 20), (30, 21), (39, 999), (40, 999), (41, 999), (30, 30), (30, 42), (30, 43), (30, 44), (1, 1), (1, 3), (1, 10), (1, 13), (8, 0), (30, 49), (2, 15), (8, 1)]
set_option maxHeartbeats 8000000 in
theorem hr_readTest {ro : ab_R} {G : Nat → Nat} {fz : List (Nat × Nat)} {F : ab_W → Prop} (hF : ∀ w w', smt G w w' → F w → F w') (d : Nat) {pc pp : Nat} {fc fp : Nat → Int32} {tk e bd io fw lw : Int32} (hok : pa_ok fc fp e io fw lw) (htk : 0 ≤ tk.toInt ∧ tk.toInt ≤ e.toInt) {b : Nat} (hD : 6 * b + 12 ≤ d + 6) (ihreadBoth : ReK ro G F fz b 7 161 11) (hfz : ∀ q ∈ fz, q ∈ fb_hr_readTest) : hx_ct ro sp_ G (F9 G F) fz (ab_Ev ro ab_codes (d + 6)) 160 [(2, 30, 0), (0, 0, 8)] none (paPd pc pp fc fp tk e bd io fw lw b) (paR pc pp fc fp tk e bd io fw lw (fun t => GP (cd fc) e.toInt.toNat (decide (io.toInt ≠ 0)) b 9 tk.toInt.toNat t.toInt.toNat)) := by
  have hFF := F9_same hF
  refine hx_hand (d := d + 5) (by decide) (fun as w hw hf has hP => ?_)
  match as, has with
  | [v0, v1], ⟨h0, h1, _⟩ =>
    obtain ⟨o, rfl, _, hG0⟩ := ty_refn h0 rfl rfl
    replace hG0 : G o = 30 := hG0
    obtain ⟨l, rfl, hl1, hh1⟩ := ty_int h1 rfl
    replace hl1 : (0 : Int) ≤ l.toInt := hl1
    replace hh1 : l.toInt ≤ 8 := hh1
    refine ⟨rfl, ?_⟩
    obtain ⟨fs0, g0, i15, i17, i19, i18, i21, i10, i8, i9, gc0, gp0⟩ := (hP o l rfl).1
    obtain ⟨⟨he0, he1⟩, hz0, hpl, -, -⟩ := id hok
    have hfw := pa_fw hok
    have hG_pc := pa_r15 hw g0 hG0 i15
    have hG_pp := pa_r17 hw g0 hG0 i17
    have hl8 := (hP o l rfl).2
    have ct5 : ∀ (nq : Nat) (w1 : ab_W) (tq : Int32) (bq : Int32), ty_w sp_ G w1 → (F9 G F) w1 → ty_same G fz w w1 → (hx_has w1 o 9 19 (.int tq)) → (hx_has w1 o 9 21 (.int bq)) → (hx_has w1 o 9 15 (.ref pc)) → (hx_has w1 o 9 17 (.ref pp)) → (hx_has w1 o 9 18 (.int e)) → (hx_has w1 o 9 10 (.int io)) → (hx_has w1 o 9 8 (.int fw)) → (hx_has w1 o 9 9 (.int lw)) → (w1[pc]? = some (.inl (0, 401, .inl fc))) → (w1[pp]? = some (.inl (0, 401, .inl fp))) → (tk.toInt ≤ tq.toInt) → (tq.toInt ≤ e.toInt) → (bq.toInt = -1 → bd.toInt = -1 ∧ ∀ q, GP (cd fc) e.toInt.toNat (decide (io.toInt ≠ 0)) b 10 tq.toInt.toNat q → GP (cd fc) e.toInt.toNat (decide (io.toInt ≠ 0)) b 9 tk.toInt.toNat q) → (401 - tq.toInt).toNat < nq → ab_wp ro (ab_Ev ro ab_codes (d + 5)) 9 false none ab_k_X9_readTest (fun o_1 => ∃ v w1, o_1 = (v, w1, 0, 0) ∧ ty_w sp_ G w1 ∧ (F9 G F) w1 ∧ ty_same G fz w w1 ∧ ck_res G none v ∧ (paR pc pp fc fp tk e bd io fw lw (fun t => GP (cd fc) e.toInt.toNat (decide (io.toInt ≠ 0)) b 9 tk.toInt.toNat t.toInt.toNat)) ([.ref o, .int l] : List Value) w v w1) (5, [some (.ref o), some (.int l)], [], w1, 0, 0) := by
      intro nq
      induction nq with
      | zero => intro w1 tq bq hw14 hf15 hs16 hh2 hh3 hh4 hh5 hh6 hh7 hh8 hh9 g10 g11 i12 i13 hgq hm; exact absurd hm (Nat.not_lt_zero _)
      | succ nq ih5 =>
        intro w1 tq bq hw14 hf15 hs16 hh2 hh3 hh4 hh5 hh6 hh7 hh8 hh9 g10 g11 i12 i13 hgq hm5
        obtain ⟨fs17, g18, e19⟩ := hh2
        have q20 := hx_oq hw14 g18 hG0 (s := 30) rfl
        obtain ⟨x21, e22, a23, b24⟩ := hx_fi (k := 19) (lo := 0) (hi := 400) q20 rfl
        obtain rfl : tq = x21 := hx_inji e19 e22
        obtain ⟨fs25, g26, e27⟩ := hh3
        obtain rfl : fs17 = fs25 := hx_inj g18 g26
        obtain ⟨x28, e29, a30, b31⟩ := hx_fi (k := 21) (lo := (-2147483648)) (hi := 2147483647) q20 rfl
        obtain rfl : bq = x28 := hx_inji e27 e29
        obtain ⟨fs32, g33, e34⟩ := hh4
        obtain rfl : fs17 = fs32 := hx_inj g18 g33
        obtain ⟨fs35, g36, e37⟩ := hh5
        obtain rfl : fs17 = fs35 := hx_inj g18 g36
        obtain ⟨fs38, g39, e40⟩ := hh6
        obtain rfl : fs17 = fs38 := hx_inj g18 g39
        obtain ⟨fs41, g42, e43⟩ := hh7
        obtain rfl : fs17 = fs41 := hx_inj g18 g42
        obtain ⟨fs44, g45, e46⟩ := hh8
        obtain rfl : fs17 = fs44 := hx_inj g18 g45
        obtain ⟨fs47, g48, e49⟩ := hh9
        obtain rfl : fs17 = fs47 := hx_inj g18 g48
        refine ax_go 1 (y := (6, [some (.ref o), some (.int l)], [.ref o], w1, 0, 0)) rfl trivial ?_
        refine hx_k (l := 8) (m := 6) rfl rfl (by decide) (fun z50 h51 => ?_)
        refine hx_pi (l := 11) (as := [.ref o, .int z50]) rfl rfl (hx_iv (j := 152) (n := 1) (o := o) (r := []) rfl rfl g18 rfl) (hp_X9_takes0 (fz := fz) hF (pc := pc) (pp := pp) (fc := fc) (fp := fp) (tk := tq) (e := e) (bd := bq) (io := io) (fw := fw) (lw := lw) hok ⟨by omega, by omega⟩ (fun q hq => (by decide +kernel : ∀ q ∈ fb_hr_readTest, q ∈ fb_hp_X9_takes0) q (hfz q hq)) (d + 3)) hw14 hf15 ⟨(hx_tr (G := G) (s := 30) (b := 0) hG0 (by decide)), (hx_ti (G := G) (lo := 1) (hi := 355) (by omega) (by omega)), trivial⟩ (fun o1 h1 => by cases h1; exact ⟨_, g18, e34, e37, e19, e40, e27, e43, e46, e49, g10, g11⟩) (fun w52 z57 hw53 hf54 m55 a58 b59 u60 => ?_)
        have hs56 := ty_same_tr hs16 m55
        rcases u60 _ _ _ rfl rfl with ⟨hz73, hb74, hg75, tN76, ⟨fsN61, gA62, iA63, iB64, iC65, iD66, iE67, iF68, iG69, iH70, gC71, gP72⟩, ht77, hu78⟩ | ⟨hz73, hg75, ⟨fsN61, gA62, iA63, iB64, iC65, iD66, iE67, iF68, iG69, iH70, gC71, gP72⟩⟩
        · -- taken 1
          refine hx_if_eq (l := 14) rfl rfl (fun h79 => by omega) (fun h79 => ?_)
          refine ax_go 2 (y := (16, [some (.ref o), some (.int l)], [.int l, .ref o], w52, 0, 0)) rfl trivial ?_
          refine hx_p0 (l := 19) (as := [.ref o, .int l]) rfl rfl (hx_iv (j := 161) (n := 1) (o := o) (r := []) rfl rfl gA62 rfl) (ihreadBoth pc pp fc fp tN76 e bq io fw lw (d + 5) hok ⟨by omega, by omega⟩ (by omega)) hw53 hf54 ⟨(hx_tr (G := G) (s := 30) (b := 0) hG0 (by decide)), (hx_ti (G := G) (lo := 0) (hi := 8) (by omega) (by omega)), trivial⟩ (fun o1 l1 h1 => by cases h1; exact ⟨⟨_, gA62, iA63, iB64, iC65, iD66, iE67, iF68, iG69, iH70, gC71, gP72⟩, by omega⟩) (fun w80 hw81 hf82 m83 u88 => ?_)
          have hs84 := ty_same_tr hs56 m83
          obtain ⟨tN101, bN102, ⟨fsN89, gA90, iA91, iB92, iC93, iD94, iE95, iF96, iG97, iH98, gC99, gP100⟩, ⟨ha103, hb104⟩, hN105⟩ := u88 _ rfl
          try dsimp only at hN105
          refine ax_go 1 (y := (5, [some (.ref o), some (.int l)], [], w80, 0, 0)) rfl trivial ?_
          exact ih5 w80 tN101 bN102 hw81 hf82 hs84 ⟨_, gA90, iC93⟩ ⟨_, gA90, iE95⟩ ⟨_, gA90, iA91⟩ ⟨_, gA90, iB92⟩ ⟨_, gA90, iD94⟩ ⟨_, gA90, iF96⟩ ⟨_, gA90, iG97⟩ ⟨_, gA90, iH98⟩ gC99 gP100 (by omega) (by omega) (fun hb => ⟨(hgq (hN105 hb).1).1, fun q hq => (hgq (hN105 hb).1).2 q (gp_ol (by omega) (by rw [show tq.toInt.toNat + 1 = tN76.toInt.toNat by omega]; exact (hN105 hb).2) hq)⟩) (by omega)
        · -- taken 0
          refine hx_if_eq (l := 14) rfl rfl (fun h106 => ?_) (fun h106 => by omega)
          exact ax_ret rfl rfl trivial ⟨none, _, rfl, hw53, hf54, hs56, trivial, (fun o1 h1 => by cases h1; exact ⟨tq, bq, ⟨_, gA62, iA63, iB64, iC65, iD66, iE67, iF68, iG69, iH70, gC71, gP72⟩, ⟨by omega, by omega⟩, by (try dsimp only); exact (fun hb => ⟨(hgq hb).1, (hgq hb).2 _ (gp_ol0 (by omega))⟩)⟩)⟩
    change ab_wp ro (ab_Ev ro ab_codes (d + 5)) 9 false none ab_k_X9_readTest (fun o_1 => ∃ v w1, o_1 = (v, w1, 0, 0) ∧ ty_w sp_ G w1 ∧ (F9 G F) w1 ∧ ty_same G fz w w1 ∧ ck_res G none v ∧ (paR pc pp fc fp tk e bd io fw lw (fun t => GP (cd fc) e.toInt.toNat (decide (io.toInt ≠ 0)) b 9 tk.toInt.toNat t.toInt.toNat)) ([.ref o, .int l] : List Value) w v w1) (0, [some (.ref o), some (.int l)], [], w, 0, 0)
    refine ax_go 2 (y := (2, [some (.ref o), some (.int l)], [.int l, .ref o], w, 0, 0)) rfl trivial ?_
    refine hx_p0 (l := 5) (as := [.ref o, .int l]) rfl rfl (hx_iv (j := 161) (n := 1) (o := o) (r := []) rfl rfl g0 rfl) (ihreadBoth pc pp fc fp tk e bd io fw lw (d + 5) hok ⟨by omega, by omega⟩ (by omega)) hw hf ⟨(hx_tr (G := G) (s := 30) (b := 0) hG0 (by decide)), (hx_ti (G := G) (lo := 0) (hi := 8) (by omega) (by omega)), trivial⟩ (fun o1 l1 h1 => by cases h1; exact ⟨⟨_, g0, i15, i17, i19, i18, i21, i10, i8, i9, gc0, gp0⟩, by omega⟩) (fun w107 hw108 hf109 m110 u115 => ?_)
    have hs111 := ty_same_tr (ty_same_rf w) m110
    obtain ⟨tN128, bN129, ⟨fsN116, gA117, iA118, iB119, iC120, iD121, iE122, iF123, iG124, iH125, gC126, gP127⟩, ⟨ha130, hb131⟩, hN132⟩ := u115 _ rfl
    try dsimp only at hN132
    exact ct5 _ w107 tN128 bN129 hw108 hf109 hs111 ⟨_, gA117, iC120⟩ ⟨_, gA117, iE122⟩ ⟨_, gA117, iA118⟩ ⟨_, gA117, iB119⟩ ⟨_, gA117, iD121⟩ ⟨_, gA117, iF123⟩ ⟨_, gA117, iG124⟩ ⟨_, gA117, iH125⟩ gC126 gP127 (by omega) (by omega) (fun hb => ⟨(hN132 hb).1, fun q hq => gp_test (hN132 hb).2 hq⟩) (Nat.lt_succ_self _)
def fb_hr_readPart : List (Nat × Nat) := [(8, 3), (8, 5), (19, 999), (32, 999), (33, 999), (34, 999), (35, 999), (44, 999), (45, 999), (1, 0), (18, 999), (2, 11), (2, 14), (1, 15), (54, 11), (4, 2), (7, 9), (30, 13), (30, 34), (30, 2), (30, 22), (30, 23), (30, 24), (30, 25), (46, 999), (47, 999), (30, 35), (30, 36), (7, 0), (24, 999), (37, 999), (30, 4), (30, 5), (30, 6), (30, 8), (30, 9), (30, 10), (30, 11), (30, 14), (30, 15), (30, 16), (30, 17), (30, 18), (39, 999), (40, 999), (41, 999), (30, 30), (30, 42), (30, 43), (30, 44), (1, 1), (1, 3), (1, 10), (1, 13), (8, 0), (30, 49), (2, 15), (8, 1)]
set_option maxHeartbeats 8000000 in
theorem hr_readPart {ro : ab_R} {G : Nat → Nat} {fz : List (Nat × Nat)} {F : ab_W → Prop} (hF : ∀ w w', smt G w w' → F w → F w') (d : Nat) {pc pp : Nat} {fc fp : Nat → Int32} {tk e bd io fw lw : Int32} (hok : pa_ok fc fp e io fw lw) (htk : 0 ≤ tk.toInt ∧ tk.toInt ≤ e.toInt) {b : Nat} (hD : 6 * b + 6 ≤ d + 6) (ihreadSum : ∀ b1, b1 < b → ReK ro G F fz b1 2 163 8) (hfz : ∀ q ∈ fz, q ∈ fb_hr_readPart) : hx_ct ro sp_ G (F9 G F) fz (ab_Ev ro ab_codes (d + 6)) 165 [(2, 30, 0), (0, 0, 8)] none (paPd pc pp fc fp tk e bd io fw lw b) (paR pc pp fc fp tk e bd io fw lw (fun t => GP (cd fc) e.toInt.toNat (decide (io.toInt ≠ 0)) b 0 tk.toInt.toNat t.toInt.toNat)) := by
  have hFF := F9_same hF
  refine hx_hand (d := d + 5) (by decide) (fun as w hw hf has hP => ?_)
  match as, has with
  | [v0, v1], ⟨h0, h1, _⟩ =>
    obtain ⟨o, rfl, _, hG0⟩ := ty_refn h0 rfl rfl
    replace hG0 : G o = 30 := hG0
    obtain ⟨l, rfl, hl1, hh1⟩ := ty_int h1 rfl
    replace hl1 : (0 : Int) ≤ l.toInt := hl1
    replace hh1 : l.toInt ≤ 8 := hh1
    refine ⟨rfl, ?_⟩
    obtain ⟨fs0, g0, i15, i17, i19, i18, i21, i10, i8, i9, gc0, gp0⟩ := (hP o l rfl).1
    obtain ⟨⟨he0, he1⟩, hz0, hpl, -, -⟩ := id hok
    have hfw := pa_fw hok
    have hG_pc := pa_r15 hw g0 hG0 i15
    have hG_pp := pa_r17 hw g0 hG0 i17
    have hl8 := (hP o l rfl).2
    change ab_wp ro (ab_Ev ro ab_codes (d + 5)) 9 false none ab_k_X9_readPart (fun o_1 => ∃ v w1, o_1 = (v, w1, 0, 0) ∧ ty_w sp_ G w1 ∧ (F9 G F) w1 ∧ ty_same G fz w w1 ∧ ck_res G none v ∧ (paR pc pp fc fp tk e bd io fw lw (fun t => GP (cd fc) e.toInt.toNat (decide (io.toInt ≠ 0)) b 0 tk.toInt.toNat t.toInt.toNat)) ([.ref o, .int l] : List Value) w v w1) (0, [some (.ref o), some (.int l), none], [], w, 0, 0)
    refine ax_go 1 (y := (1, [some (.ref o), some (.int l), none], [.ref o], w, 0, 0)) rfl trivial ?_
    refine hx_pi (l := 4) (as := [.ref o]) rfl rfl (hx_iv (j := 150) (n := 0) (o := o) (r := []) rfl rfl g0 rfl) (hp_X9_fine (fz := fz) hF (fun q hq => (by decide +kernel : ∀ q ∈ fb_hr_readPart, q ∈ fb_hp_X9_fine) q (hfz q hq)) (d + 4)) hw hf ⟨(hx_tr (G := G) (s := 30) (b := 0) hG0 (by decide)), trivial⟩ trivial (fun w1 z6 hw2 hf3 m4 a7 b8 u9 => ?_)
    rw [u9.1]
    have u10 := u9.2 _ _ _ rfl ⟨_, g0, i21⟩ rfl
    clear u9
    rcases u10 with ⟨hz11, hb12⟩ | ⟨hz11, hb12⟩
    · -- fine 1
      refine hx_if_ne (l := 7) rfl rfl (fun h13 => ?_) (fun h13 => by omega)
      refine ax_go 1 (y := (9, [some (.ref o), some (.int l), none], [.ref o], w, 0, 0)) rfl trivial ?_
      refine hx_gf (l := 12) rfl rfl rfl g0 i15 ?_
      refine ax_go 1 (y := (13, [some (.ref o), some (.int l), none], [.ref o, .ref pc], w, 0, 0)) rfl trivial ?_
      refine hx_gf (l := 16) rfl rfl rfl g0 i19 ?_
      have r14 := hx_rq hw gc0 hG_pc (s := 39) rfl
      refine hx_il (l := 17) rfl rfl gc0 (by omega) (by omega) (fun z15 h16 => ?_)
      have u17 : gc (cd fc) e.toInt.toNat tk.toInt.toNat = z15.toInt := by rw [pa_gc hok ⟨by omega, by omega⟩, h16]
      refine ax_go 2 (y := (19, [some (.ref o), some (.int l), some (.int z15)], [.int z15], w, 0, 0)) rfl trivial ?_
      refine hx_k (l := 21) (m := 91) rfl rfl (by decide) (fun z18 h19 => ?_)
      refine hx_pi (l := 24) (as := [.int z18]) rfl rfl rfl (hp_X9_sign (fz := fz) hF (fun q hq => (by decide +kernel : ∀ q ∈ fb_hr_readPart, q ∈ fb_hp_X9_sign) q (hfz q hq)) (d + 4)) hw hf ⟨(hx_ti (G := G) (lo := 0) (hi := 255) (by omega) (by omega)), trivial⟩ trivial (fun w20 z25 hw21 hf22 m23 a26 b27 u28 => ?_)
      rw [u28.1]
      have u29 := u28.2 _ _ rfl rfl
      refine hx_ic_ne (l := 27) rfl rfl (fun h30 => ?_) (fun h30 => ?_)
      · -- 74
        refine ax_go 1 (y := (75, [some (.ref o), some (.int l), some (.int z15)], [.int z15], w, 0, 0)) rfl trivial ?_
        refine hx_k (l := 77) (m := 50) rfl rfl (by decide) (fun z31 h32 => ?_)
        refine hx_ic_ne (l := 80) rfl rfl (fun h33 => ?_) (fun h33 => ?_)
        · -- 95
          refine ax_go 2 (y := (97, [some (.ref o), some (.int l), some (.int z15)], [.ref o, .int z15], w, 0, 0)) rfl trivial ?_
          refine hx_gf (l := 100) rfl rfl rfl g0 i8 ?_
          refine hx_ic_lt (l := 103) rfl rfl (fun h34 => ?_) (fun h34 => ?_)
          · -- 144
            refine ax_go 1 (y := (145, [some (.ref o), some (.int l), some (.int z15)], [.ref o], w, 0, 0)) rfl trivial ?_
            refine hx_p0 (l := 148) (as := [.ref o]) rfl rfl (hx_iv (j := 151) (n := 0) (o := o) (r := []) rfl rfl g0 rfl) (hp_X9_faults (fz := fz) hF (pc := pc) (pp := pp) (fc := fc) (fp := fp) (tk := tk) (e := e) (bd := bd) (io := io) (fw := fw) (lw := lw) hok ⟨by omega, by omega⟩ (fun q hq => (by decide +kernel : ∀ q ∈ fb_hr_readPart, q ∈ fb_hp_X9_faults) q (hfz q hq)) (d + 3)) hw hf ⟨(hx_tr (G := G) (s := 30) (b := 0) hG0 (by decide)), trivial⟩ (fun o1 h1 => by cases h1; exact ⟨_, g0, i15, i17, i19, i18, i21, i10, i8, i9, gc0, gp0⟩) (fun w35 hw36 hf37 m38 u43 => ?_)
            have hs39 := ty_same_tr (ty_same_rf w) m38
            obtain ⟨bN56, ⟨fsN44, gA45, iA46, iB47, iC48, iD49, iE50, iF51, iG52, iH53, gC54, gP55⟩, hN57⟩ := u43 _ rfl
            exact ax_ret rfl rfl trivial ⟨none, _, rfl, hw36, hf37, hs39, trivial, (fun o1 h1 => by cases h1; exact ⟨tk, bN56, ⟨_, gA45, iA46, iB47, iC48, iD49, iE50, iF51, iG52, iH53, gC54, gP55⟩, ⟨by omega, by omega⟩, by (try dsimp only); exact (fun hb => absurd hb (by omega))⟩)⟩
          · -- 103
            refine ax_go 2 (y := (105, [some (.ref o), some (.int l), some (.int z15)], [.ref o, .int z15], w, 0, 0)) rfl trivial ?_
            refine hx_gf (l := 108) rfl rfl rfl g0 i9 ?_
            refine hx_ic_gt (l := 111) rfl rfl (fun h58 => ?_) (fun h58 => ?_)
            · -- 144
              refine ax_go 1 (y := (145, [some (.ref o), some (.int l), some (.int z15)], [.ref o], w, 0, 0)) rfl trivial ?_
              refine hx_p0 (l := 148) (as := [.ref o]) rfl rfl (hx_iv (j := 151) (n := 0) (o := o) (r := []) rfl rfl g0 rfl) (hp_X9_faults (fz := fz) hF (pc := pc) (pp := pp) (fc := fc) (fp := fp) (tk := tk) (e := e) (bd := bd) (io := io) (fw := fw) (lw := lw) hok ⟨by omega, by omega⟩ (fun q hq => (by decide +kernel : ∀ q ∈ fb_hr_readPart, q ∈ fb_hp_X9_faults) q (hfz q hq)) (d + 3)) hw hf ⟨(hx_tr (G := G) (s := 30) (b := 0) hG0 (by decide)), trivial⟩ (fun o1 h1 => by cases h1; exact ⟨_, g0, i15, i17, i19, i18, i21, i10, i8, i9, gc0, gp0⟩) (fun w59 hw60 hf61 m62 u67 => ?_)
              have hs63 := ty_same_tr (ty_same_rf w) m62
              obtain ⟨bN80, ⟨fsN68, gA69, iA70, iB71, iC72, iD73, iE74, iF75, iG76, iH77, gC78, gP79⟩, hN81⟩ := u67 _ rfl
              exact ax_ret rfl rfl trivial ⟨none, _, rfl, hw60, hf61, hs63, trivial, (fun o1 h1 => by cases h1; exact ⟨tk, bN80, ⟨_, gA69, iA70, iB71, iC72, iD73, iE74, iF75, iG76, iH77, gC78, gP79⟩, ⟨by omega, by omega⟩, by (try dsimp only); exact (fun hb => absurd hb (by omega))⟩)⟩
            · -- 111
              refine ax_go 1 (y := (112, [some (.ref o), some (.int l), some (.int z15)], [.ref o], w, 0, 0)) rfl trivial ?_
              refine hx_p0 (l := 115) (as := [.ref o]) rfl rfl (hx_iv (j := 154) (n := 0) (o := o) (r := []) rfl rfl g0 rfl) (hp_X9_leaf (fz := fz) hF (pc := pc) (pp := pp) (fc := fc) (fp := fp) (tk := tk) (e := e) (bd := bd) (io := io) (fw := fw) (lw := lw) hok ⟨by omega, by omega⟩ (by omega) (fun q hq => (by decide +kernel : ∀ q ∈ fb_hr_readPart, q ∈ fb_hp_X9_leaf) q (hfz q hq)) (d + 2)) hw hf ⟨(hx_tr (G := G) (s := 30) (b := 0) hG0 (by decide)), trivial⟩ (fun o1 h1 => by cases h1; exact ⟨_, g0, i15, i17, i19, i18, i21, i10, i8, i9, gc0, gp0⟩) (fun w82 hw83 hf84 m85 u90 => ?_)
              have hs86 := ty_same_tr (ty_same_rf w) m85
              obtain ⟨tN103, bN104, ⟨fsN91, gA92, iA93, iB94, iC95, iD96, iE97, iF98, iG99, iH100, gC101, gP102⟩, ⟨ha105, hb106⟩, hN107⟩ := u90 _ rfl
              try dsimp only at hN107
              refine ax_go 1 (y := (116, [some (.ref o), some (.int l), some (.int z15)], [.ref o], w82, 0, 0)) rfl trivial ?_
              refine hx_gf (l := 119) rfl rfl rfl gA92 iF98 ?_
              refine hx_if_eq (l := 122) rfl rfl (fun h108 => ?_) (fun h108 => ?_)
              · -- 148
                exact ax_ret rfl rfl trivial ⟨none, _, rfl, hw83, hf84, hs86, trivial, (fun o1 h1 => by cases h1; exact ⟨tN103, bN104, ⟨_, gA92, iA93, iB94, iC95, iD96, iE97, iF98, iG99, iH100, gC101, gP102⟩, ⟨by omega, by omega⟩, by (try dsimp only); exact (fun hb => ⟨(hN107 hb).1, by rw [show tN103.toInt.toNat = tk.toInt.toNat + 1 by have := (hN107 hb).2; omega]; exact gp_lf1 (by omega) (pa_leaf hok (by omega)) (fun zz => by have := of_decide_eq_true zz.1; have := zz.2; omega)⟩)⟩)⟩
              · -- 122
                refine ax_go 1 (y := (123, [some (.ref o), some (.int l), some (.int z15)], [.int z15], w82, 0, 0)) rfl trivial ?_
                refine hx_k (l := 125) (m := 14) rfl rfl (by decide) (fun z109 h110 => ?_)
                refine hx_ic_eq (l := 128) rfl rfl (fun h111 => ?_) (fun h111 => ?_)
                · -- 134
                  refine ax_go 1 (y := (135, [some (.ref o), some (.int l), some (.int z15)], [.ref o], w82, 0, 0)) rfl trivial ?_
                  refine hx_k (l := 136) (m := 0) rfl rfl (by decide) (fun z112 h113 => ?_)
                  refine hx_k (l := 138) (m := 9) rfl rfl (by decide) (fun z114 h115 => ?_)
                  refine hx_p0 (l := 141) (as := [.ref o, .int z112, .int z114]) rfl rfl (hx_iv (j := 156) (n := 2) (o := o) (r := []) rfl rfl gA92 rfl) (hp_X9_mustNumber (fz := fz) hF (pc := pc) (pp := pp) (fc := fc) (fp := fp) (tk := tN103) (e := e) (bd := bN104) (io := io) (fw := fw) (lw := lw) hok ⟨by omega, by omega⟩ (fun q hq => (by decide +kernel : ∀ q ∈ fb_hr_readPart, q ∈ fb_hp_X9_mustNumber) q (hfz q hq)) (d + 2)) hw83 hf84 ⟨(hx_tr (G := G) (s := 30) (b := 0) hG0 (by decide)), (ck_top_ok (G := G) z112), (ck_top_ok (G := G) z114), trivial⟩ (fun o1 h1 => by cases h1; exact ⟨_, gA92, iA93, iB94, iC95, iD96, iE97, iF98, iG99, iH100, gC101, gP102⟩) (fun w116 hw117 hf118 m119 u124 => ?_)
                  have hs120 := ty_same_tr hs86 m119
                  obtain ⟨tN137, bN138, ⟨fsN125, gA126, iA127, iB128, iC129, iD130, iE131, iF132, iG133, iH134, gC135, gP136⟩, ⟨ha139, hb140⟩, hN141⟩ := u124 _ rfl
                  try dsimp only at hN141
                  refine ax_go 1 (y := (148, [some (.ref o), some (.int l), some (.int z15)], [], w116, 0, 0)) rfl trivial ?_
                  exact ax_ret rfl rfl trivial ⟨none, _, rfl, hw117, hf118, hs120, trivial, (fun o1 h1 => by cases h1; exact ⟨tN137, bN138, ⟨_, gA126, iA127, iB128, iC129, iD130, iE131, iF132, iG133, iH134, gC135, gP136⟩, ⟨by omega, by omega⟩, by (try dsimp only); exact (fun hb => ⟨(hN107 (hN141 hb).1).1, by have y1 := (hN107 (hN141 hb).1).2; have y2 := (hN141 hb).2; rw [show tN137.toInt.toNat = tk.toInt.toNat + 2 by omega]; exact gp_lf2 (by omega) (pa_leaf hok (by omega)) ⟨decide_eq_true (by omega), by omega⟩ (by rw [show tk.toInt.toNat + 1 = tN103.toInt.toNat by omega]; exact y2.1)⟩)⟩)⟩
                · -- 128
                  refine ax_go 1 (y := (129, [some (.ref o), some (.int l), some (.int z15)], [.int z15], w82, 0, 0)) rfl trivial ?_
                  refine hx_k (l := 131) (m := 15) rfl rfl (by decide) (fun z142 h143 => ?_)
                  refine hx_ic_ne (l := 134) rfl rfl (fun h144 => ?_) (fun h144 => ?_)
                  · -- 148
                    exact ax_ret rfl rfl trivial ⟨none, _, rfl, hw83, hf84, hs86, trivial, (fun o1 h1 => by cases h1; exact ⟨tN103, bN104, ⟨_, gA92, iA93, iB94, iC95, iD96, iE97, iF98, iG99, iH100, gC101, gP102⟩, ⟨by omega, by omega⟩, by (try dsimp only); exact (fun hb => ⟨(hN107 hb).1, by rw [show tN103.toInt.toNat = tk.toInt.toNat + 1 by have := (hN107 hb).2; omega]; exact gp_lf1 (by omega) (pa_leaf hok (by omega)) (fun zz => by have := of_decide_eq_true zz.1; have := zz.2; omega)⟩)⟩)⟩
                  · -- 134
                    refine ax_go 1 (y := (135, [some (.ref o), some (.int l), some (.int z15)], [.ref o], w82, 0, 0)) rfl trivial ?_
                    refine hx_k (l := 136) (m := 0) rfl rfl (by decide) (fun z145 h146 => ?_)
                    refine hx_k (l := 138) (m := 9) rfl rfl (by decide) (fun z147 h148 => ?_)
                    refine hx_p0 (l := 141) (as := [.ref o, .int z145, .int z147]) rfl rfl (hx_iv (j := 156) (n := 2) (o := o) (r := []) rfl rfl gA92 rfl) (hp_X9_mustNumber (fz := fz) hF (pc := pc) (pp := pp) (fc := fc) (fp := fp) (tk := tN103) (e := e) (bd := bN104) (io := io) (fw := fw) (lw := lw) hok ⟨by omega, by omega⟩ (fun q hq => (by decide +kernel : ∀ q ∈ fb_hr_readPart, q ∈ fb_hp_X9_mustNumber) q (hfz q hq)) (d + 2)) hw83 hf84 ⟨(hx_tr (G := G) (s := 30) (b := 0) hG0 (by decide)), (ck_top_ok (G := G) z145), (ck_top_ok (G := G) z147), trivial⟩ (fun o1 h1 => by cases h1; exact ⟨_, gA92, iA93, iB94, iC95, iD96, iE97, iF98, iG99, iH100, gC101, gP102⟩) (fun w149 hw150 hf151 m152 u157 => ?_)
                    have hs153 := ty_same_tr hs86 m152
                    obtain ⟨tN170, bN171, ⟨fsN158, gA159, iA160, iB161, iC162, iD163, iE164, iF165, iG166, iH167, gC168, gP169⟩, ⟨ha172, hb173⟩, hN174⟩ := u157 _ rfl
                    try dsimp only at hN174
                    refine ax_go 1 (y := (148, [some (.ref o), some (.int l), some (.int z15)], [], w149, 0, 0)) rfl trivial ?_
                    exact ax_ret rfl rfl trivial ⟨none, _, rfl, hw150, hf151, hs153, trivial, (fun o1 h1 => by cases h1; exact ⟨tN170, bN171, ⟨_, gA159, iA160, iB161, iC162, iD163, iE164, iF165, iG166, iH167, gC168, gP169⟩, ⟨by omega, by omega⟩, by (try dsimp only); exact (fun hb => ⟨(hN107 (hN174 hb).1).1, by have y1 := (hN107 (hN174 hb).1).2; have y2 := (hN174 hb).2; rw [show tN170.toInt.toNat = tk.toInt.toNat + 2 by omega]; exact gp_lf2 (by omega) (pa_leaf hok (by omega)) ⟨decide_eq_true (by omega), by omega⟩ (by rw [show tk.toInt.toNat + 1 = tN103.toInt.toNat by omega]; exact y2.1)⟩)⟩)⟩
        · -- 80
          refine ax_go 1 (y := (81, [some (.ref o), some (.int l), some (.int z15)], [.ref o], w, 0, 0)) rfl trivial ?_
          have q175 := hx_oq hw g0 hG0 (s := 30) rfl
          obtain ⟨p176, e177, hG178⟩ := hx_fr (k := 16) (s := 40) q175 rfl
          refine hx_gf (l := 84) rfl rfl rfl g0 e177 ?_
          refine ax_go 1 (y := (85, [some (.ref o), some (.int l), some (.int z15)], [.ref o, .ref p176], w, 0, 0)) rfl trivial ?_
          refine hx_gf (l := 88) rfl rfl rfl g0 i19 ?_
          obtain ⟨f179, g180, r181⟩ := hx_row hw hG178 (s := 40) (kd := 0) (n := 401) rfl (by decide)
          refine hx_il (l := 89) rfl rfl g180 (by omega) (by omega) (fun z182 h183 => ?_)
          refine hx_k (l := 92) (m := 1000) rfl rfl (by decide) (fun z184 h185 => ?_)
          refine hx_ic_le (l := 95) rfl rfl (fun h186 => ?_) (fun h186 => ?_)
          · -- 111
            refine ax_go 1 (y := (112, [some (.ref o), some (.int l), some (.int z15)], [.ref o], w, 0, 0)) rfl trivial ?_
            refine hx_p0 (l := 115) (as := [.ref o]) rfl rfl (hx_iv (j := 154) (n := 0) (o := o) (r := []) rfl rfl g0 rfl) (hp_X9_leaf (fz := fz) hF (pc := pc) (pp := pp) (fc := fc) (fp := fp) (tk := tk) (e := e) (bd := bd) (io := io) (fw := fw) (lw := lw) hok ⟨by omega, by omega⟩ (by omega) (fun q hq => (by decide +kernel : ∀ q ∈ fb_hr_readPart, q ∈ fb_hp_X9_leaf) q (hfz q hq)) (d + 2)) hw hf ⟨(hx_tr (G := G) (s := 30) (b := 0) hG0 (by decide)), trivial⟩ (fun o1 h1 => by cases h1; exact ⟨_, g0, i15, i17, i19, i18, i21, i10, i8, i9, gc0, gp0⟩) (fun w187 hw188 hf189 m190 u195 => ?_)
            have hs191 := ty_same_tr (ty_same_rf w) m190
            obtain ⟨tN208, bN209, ⟨fsN196, gA197, iA198, iB199, iC200, iD201, iE202, iF203, iG204, iH205, gC206, gP207⟩, ⟨ha210, hb211⟩, hN212⟩ := u195 _ rfl
            try dsimp only at hN212
            refine ax_go 1 (y := (116, [some (.ref o), some (.int l), some (.int z15)], [.ref o], w187, 0, 0)) rfl trivial ?_
            refine hx_gf (l := 119) rfl rfl rfl gA197 iF203 ?_
            refine hx_if_eq (l := 122) rfl rfl (fun h213 => ?_) (fun h213 => ?_)
            · -- 148
              exact ax_ret rfl rfl trivial ⟨none, _, rfl, hw188, hf189, hs191, trivial, (fun o1 h1 => by cases h1; exact ⟨tN208, bN209, ⟨_, gA197, iA198, iB199, iC200, iD201, iE202, iF203, iG204, iH205, gC206, gP207⟩, ⟨by omega, by omega⟩, by (try dsimp only); exact (fun hb => ⟨(hN212 hb).1, by rw [show tN208.toInt.toNat = tk.toInt.toNat + 1 by have := (hN212 hb).2; omega]; exact gp_lf1 (by omega) (pa_leaf hok (by omega)) (fun zz => by have := of_decide_eq_true zz.1; have := zz.2; omega)⟩)⟩)⟩
            · -- 122
              refine ax_go 1 (y := (123, [some (.ref o), some (.int l), some (.int z15)], [.int z15], w187, 0, 0)) rfl trivial ?_
              refine hx_k (l := 125) (m := 14) rfl rfl (by decide) (fun z214 h215 => ?_)
              refine hx_ic_eq (l := 128) rfl rfl (fun h216 => ?_) (fun h216 => ?_)
              · -- 134
                refine ax_go 1 (y := (135, [some (.ref o), some (.int l), some (.int z15)], [.ref o], w187, 0, 0)) rfl trivial ?_
                refine hx_k (l := 136) (m := 0) rfl rfl (by decide) (fun z217 h218 => ?_)
                refine hx_k (l := 138) (m := 9) rfl rfl (by decide) (fun z219 h220 => ?_)
                refine hx_p0 (l := 141) (as := [.ref o, .int z217, .int z219]) rfl rfl (hx_iv (j := 156) (n := 2) (o := o) (r := []) rfl rfl gA197 rfl) (hp_X9_mustNumber (fz := fz) hF (pc := pc) (pp := pp) (fc := fc) (fp := fp) (tk := tN208) (e := e) (bd := bN209) (io := io) (fw := fw) (lw := lw) hok ⟨by omega, by omega⟩ (fun q hq => (by decide +kernel : ∀ q ∈ fb_hr_readPart, q ∈ fb_hp_X9_mustNumber) q (hfz q hq)) (d + 2)) hw188 hf189 ⟨(hx_tr (G := G) (s := 30) (b := 0) hG0 (by decide)), (ck_top_ok (G := G) z217), (ck_top_ok (G := G) z219), trivial⟩ (fun o1 h1 => by cases h1; exact ⟨_, gA197, iA198, iB199, iC200, iD201, iE202, iF203, iG204, iH205, gC206, gP207⟩) (fun w221 hw222 hf223 m224 u229 => ?_)
                have hs225 := ty_same_tr hs191 m224
                obtain ⟨tN242, bN243, ⟨fsN230, gA231, iA232, iB233, iC234, iD235, iE236, iF237, iG238, iH239, gC240, gP241⟩, ⟨ha244, hb245⟩, hN246⟩ := u229 _ rfl
                try dsimp only at hN246
                refine ax_go 1 (y := (148, [some (.ref o), some (.int l), some (.int z15)], [], w221, 0, 0)) rfl trivial ?_
                exact ax_ret rfl rfl trivial ⟨none, _, rfl, hw222, hf223, hs225, trivial, (fun o1 h1 => by cases h1; exact ⟨tN242, bN243, ⟨_, gA231, iA232, iB233, iC234, iD235, iE236, iF237, iG238, iH239, gC240, gP241⟩, ⟨by omega, by omega⟩, by (try dsimp only); exact (fun hb => ⟨(hN212 (hN246 hb).1).1, by have y1 := (hN212 (hN246 hb).1).2; have y2 := (hN246 hb).2; rw [show tN242.toInt.toNat = tk.toInt.toNat + 2 by omega]; exact gp_lf2 (by omega) (pa_leaf hok (by omega)) ⟨decide_eq_true (by omega), by omega⟩ (by rw [show tk.toInt.toNat + 1 = tN208.toInt.toNat by omega]; exact y2.1)⟩)⟩)⟩
              · -- 128
                refine ax_go 1 (y := (129, [some (.ref o), some (.int l), some (.int z15)], [.int z15], w187, 0, 0)) rfl trivial ?_
                refine hx_k (l := 131) (m := 15) rfl rfl (by decide) (fun z247 h248 => ?_)
                refine hx_ic_ne (l := 134) rfl rfl (fun h249 => ?_) (fun h249 => ?_)
                · -- 148
                  exact ax_ret rfl rfl trivial ⟨none, _, rfl, hw188, hf189, hs191, trivial, (fun o1 h1 => by cases h1; exact ⟨tN208, bN209, ⟨_, gA197, iA198, iB199, iC200, iD201, iE202, iF203, iG204, iH205, gC206, gP207⟩, ⟨by omega, by omega⟩, by (try dsimp only); exact (fun hb => ⟨(hN212 hb).1, by rw [show tN208.toInt.toNat = tk.toInt.toNat + 1 by have := (hN212 hb).2; omega]; exact gp_lf1 (by omega) (pa_leaf hok (by omega)) (fun zz => by have := of_decide_eq_true zz.1; have := zz.2; omega)⟩)⟩)⟩
                · -- 134
                  refine ax_go 1 (y := (135, [some (.ref o), some (.int l), some (.int z15)], [.ref o], w187, 0, 0)) rfl trivial ?_
                  refine hx_k (l := 136) (m := 0) rfl rfl (by decide) (fun z250 h251 => ?_)
                  refine hx_k (l := 138) (m := 9) rfl rfl (by decide) (fun z252 h253 => ?_)
                  refine hx_p0 (l := 141) (as := [.ref o, .int z250, .int z252]) rfl rfl (hx_iv (j := 156) (n := 2) (o := o) (r := []) rfl rfl gA197 rfl) (hp_X9_mustNumber (fz := fz) hF (pc := pc) (pp := pp) (fc := fc) (fp := fp) (tk := tN208) (e := e) (bd := bN209) (io := io) (fw := fw) (lw := lw) hok ⟨by omega, by omega⟩ (fun q hq => (by decide +kernel : ∀ q ∈ fb_hr_readPart, q ∈ fb_hp_X9_mustNumber) q (hfz q hq)) (d + 2)) hw188 hf189 ⟨(hx_tr (G := G) (s := 30) (b := 0) hG0 (by decide)), (ck_top_ok (G := G) z250), (ck_top_ok (G := G) z252), trivial⟩ (fun o1 h1 => by cases h1; exact ⟨_, gA197, iA198, iB199, iC200, iD201, iE202, iF203, iG204, iH205, gC206, gP207⟩) (fun w254 hw255 hf256 m257 u262 => ?_)
                  have hs258 := ty_same_tr hs191 m257
                  obtain ⟨tN275, bN276, ⟨fsN263, gA264, iA265, iB266, iC267, iD268, iE269, iF270, iG271, iH272, gC273, gP274⟩, ⟨ha277, hb278⟩, hN279⟩ := u262 _ rfl
                  try dsimp only at hN279
                  refine ax_go 1 (y := (148, [some (.ref o), some (.int l), some (.int z15)], [], w254, 0, 0)) rfl trivial ?_
                  exact ax_ret rfl rfl trivial ⟨none, _, rfl, hw255, hf256, hs258, trivial, (fun o1 h1 => by cases h1; exact ⟨tN275, bN276, ⟨_, gA264, iA265, iB266, iC267, iD268, iE269, iF270, iG271, iH272, gC273, gP274⟩, ⟨by omega, by omega⟩, by (try dsimp only); exact (fun hb => ⟨(hN212 (hN279 hb).1).1, by have y1 := (hN212 (hN279 hb).1).2; have y2 := (hN279 hb).2; rw [show tN275.toInt.toNat = tk.toInt.toNat + 2 by omega]; exact gp_lf2 (by omega) (pa_leaf hok (by omega)) ⟨decide_eq_true (by omega), by omega⟩ (by rw [show tk.toInt.toNat + 1 = tN208.toInt.toNat by omega]; exact y2.1)⟩)⟩)⟩
          · -- 95
            refine ax_go 2 (y := (97, [some (.ref o), some (.int l), some (.int z15)], [.ref o, .int z15], w, 0, 0)) rfl trivial ?_
            refine hx_gf (l := 100) rfl rfl rfl g0 i8 ?_
            refine hx_ic_lt (l := 103) rfl rfl (fun h280 => ?_) (fun h280 => ?_)
            · -- 144
              refine ax_go 1 (y := (145, [some (.ref o), some (.int l), some (.int z15)], [.ref o], w, 0, 0)) rfl trivial ?_
              refine hx_p0 (l := 148) (as := [.ref o]) rfl rfl (hx_iv (j := 151) (n := 0) (o := o) (r := []) rfl rfl g0 rfl) (hp_X9_faults (fz := fz) hF (pc := pc) (pp := pp) (fc := fc) (fp := fp) (tk := tk) (e := e) (bd := bd) (io := io) (fw := fw) (lw := lw) hok ⟨by omega, by omega⟩ (fun q hq => (by decide +kernel : ∀ q ∈ fb_hr_readPart, q ∈ fb_hp_X9_faults) q (hfz q hq)) (d + 3)) hw hf ⟨(hx_tr (G := G) (s := 30) (b := 0) hG0 (by decide)), trivial⟩ (fun o1 h1 => by cases h1; exact ⟨_, g0, i15, i17, i19, i18, i21, i10, i8, i9, gc0, gp0⟩) (fun w281 hw282 hf283 m284 u289 => ?_)
              have hs285 := ty_same_tr (ty_same_rf w) m284
              obtain ⟨bN302, ⟨fsN290, gA291, iA292, iB293, iC294, iD295, iE296, iF297, iG298, iH299, gC300, gP301⟩, hN303⟩ := u289 _ rfl
              exact ax_ret rfl rfl trivial ⟨none, _, rfl, hw282, hf283, hs285, trivial, (fun o1 h1 => by cases h1; exact ⟨tk, bN302, ⟨_, gA291, iA292, iB293, iC294, iD295, iE296, iF297, iG298, iH299, gC300, gP301⟩, ⟨by omega, by omega⟩, by (try dsimp only); exact (fun hb => absurd hb (by omega))⟩)⟩
            · -- 103
              refine ax_go 2 (y := (105, [some (.ref o), some (.int l), some (.int z15)], [.ref o, .int z15], w, 0, 0)) rfl trivial ?_
              refine hx_gf (l := 108) rfl rfl rfl g0 i9 ?_
              refine hx_ic_gt (l := 111) rfl rfl (fun h304 => ?_) (fun h304 => ?_)
              · -- 144
                refine ax_go 1 (y := (145, [some (.ref o), some (.int l), some (.int z15)], [.ref o], w, 0, 0)) rfl trivial ?_
                refine hx_p0 (l := 148) (as := [.ref o]) rfl rfl (hx_iv (j := 151) (n := 0) (o := o) (r := []) rfl rfl g0 rfl) (hp_X9_faults (fz := fz) hF (pc := pc) (pp := pp) (fc := fc) (fp := fp) (tk := tk) (e := e) (bd := bd) (io := io) (fw := fw) (lw := lw) hok ⟨by omega, by omega⟩ (fun q hq => (by decide +kernel : ∀ q ∈ fb_hr_readPart, q ∈ fb_hp_X9_faults) q (hfz q hq)) (d + 3)) hw hf ⟨(hx_tr (G := G) (s := 30) (b := 0) hG0 (by decide)), trivial⟩ (fun o1 h1 => by cases h1; exact ⟨_, g0, i15, i17, i19, i18, i21, i10, i8, i9, gc0, gp0⟩) (fun w305 hw306 hf307 m308 u313 => ?_)
                have hs309 := ty_same_tr (ty_same_rf w) m308
                obtain ⟨bN326, ⟨fsN314, gA315, iA316, iB317, iC318, iD319, iE320, iF321, iG322, iH323, gC324, gP325⟩, hN327⟩ := u313 _ rfl
                exact ax_ret rfl rfl trivial ⟨none, _, rfl, hw306, hf307, hs309, trivial, (fun o1 h1 => by cases h1; exact ⟨tk, bN326, ⟨_, gA315, iA316, iB317, iC318, iD319, iE320, iF321, iG322, iH323, gC324, gP325⟩, ⟨by omega, by omega⟩, by (try dsimp only); exact (fun hb => absurd hb (by omega))⟩)⟩
              · -- 111
                refine ax_go 1 (y := (112, [some (.ref o), some (.int l), some (.int z15)], [.ref o], w, 0, 0)) rfl trivial ?_
                refine hx_p0 (l := 115) (as := [.ref o]) rfl rfl (hx_iv (j := 154) (n := 0) (o := o) (r := []) rfl rfl g0 rfl) (hp_X9_leaf (fz := fz) hF (pc := pc) (pp := pp) (fc := fc) (fp := fp) (tk := tk) (e := e) (bd := bd) (io := io) (fw := fw) (lw := lw) hok ⟨by omega, by omega⟩ (by omega) (fun q hq => (by decide +kernel : ∀ q ∈ fb_hr_readPart, q ∈ fb_hp_X9_leaf) q (hfz q hq)) (d + 2)) hw hf ⟨(hx_tr (G := G) (s := 30) (b := 0) hG0 (by decide)), trivial⟩ (fun o1 h1 => by cases h1; exact ⟨_, g0, i15, i17, i19, i18, i21, i10, i8, i9, gc0, gp0⟩) (fun w328 hw329 hf330 m331 u336 => ?_)
                have hs332 := ty_same_tr (ty_same_rf w) m331
                obtain ⟨tN349, bN350, ⟨fsN337, gA338, iA339, iB340, iC341, iD342, iE343, iF344, iG345, iH346, gC347, gP348⟩, ⟨ha351, hb352⟩, hN353⟩ := u336 _ rfl
                try dsimp only at hN353
                refine ax_go 1 (y := (116, [some (.ref o), some (.int l), some (.int z15)], [.ref o], w328, 0, 0)) rfl trivial ?_
                refine hx_gf (l := 119) rfl rfl rfl gA338 iF344 ?_
                refine hx_if_eq (l := 122) rfl rfl (fun h354 => ?_) (fun h354 => ?_)
                · -- 148
                  exact ax_ret rfl rfl trivial ⟨none, _, rfl, hw329, hf330, hs332, trivial, (fun o1 h1 => by cases h1; exact ⟨tN349, bN350, ⟨_, gA338, iA339, iB340, iC341, iD342, iE343, iF344, iG345, iH346, gC347, gP348⟩, ⟨by omega, by omega⟩, by (try dsimp only); exact (fun hb => ⟨(hN353 hb).1, by rw [show tN349.toInt.toNat = tk.toInt.toNat + 1 by have := (hN353 hb).2; omega]; exact gp_lf1 (by omega) (pa_leaf hok (by omega)) (fun zz => by have := of_decide_eq_true zz.1; have := zz.2; omega)⟩)⟩)⟩
                · -- 122
                  refine ax_go 1 (y := (123, [some (.ref o), some (.int l), some (.int z15)], [.int z15], w328, 0, 0)) rfl trivial ?_
                  refine hx_k (l := 125) (m := 14) rfl rfl (by decide) (fun z355 h356 => ?_)
                  refine hx_ic_eq (l := 128) rfl rfl (fun h357 => ?_) (fun h357 => ?_)
                  · -- 134
                    refine ax_go 1 (y := (135, [some (.ref o), some (.int l), some (.int z15)], [.ref o], w328, 0, 0)) rfl trivial ?_
                    refine hx_k (l := 136) (m := 0) rfl rfl (by decide) (fun z358 h359 => ?_)
                    refine hx_k (l := 138) (m := 9) rfl rfl (by decide) (fun z360 h361 => ?_)
                    refine hx_p0 (l := 141) (as := [.ref o, .int z358, .int z360]) rfl rfl (hx_iv (j := 156) (n := 2) (o := o) (r := []) rfl rfl gA338 rfl) (hp_X9_mustNumber (fz := fz) hF (pc := pc) (pp := pp) (fc := fc) (fp := fp) (tk := tN349) (e := e) (bd := bN350) (io := io) (fw := fw) (lw := lw) hok ⟨by omega, by omega⟩ (fun q hq => (by decide +kernel : ∀ q ∈ fb_hr_readPart, q ∈ fb_hp_X9_mustNumber) q (hfz q hq)) (d + 2)) hw329 hf330 ⟨(hx_tr (G := G) (s := 30) (b := 0) hG0 (by decide)), (ck_top_ok (G := G) z358), (ck_top_ok (G := G) z360), trivial⟩ (fun o1 h1 => by cases h1; exact ⟨_, gA338, iA339, iB340, iC341, iD342, iE343, iF344, iG345, iH346, gC347, gP348⟩) (fun w362 hw363 hf364 m365 u370 => ?_)
                    have hs366 := ty_same_tr hs332 m365
                    obtain ⟨tN383, bN384, ⟨fsN371, gA372, iA373, iB374, iC375, iD376, iE377, iF378, iG379, iH380, gC381, gP382⟩, ⟨ha385, hb386⟩, hN387⟩ := u370 _ rfl
                    try dsimp only at hN387
                    refine ax_go 1 (y := (148, [some (.ref o), some (.int l), some (.int z15)], [], w362, 0, 0)) rfl trivial ?_
                    exact ax_ret rfl rfl trivial ⟨none, _, rfl, hw363, hf364, hs366, trivial, (fun o1 h1 => by cases h1; exact ⟨tN383, bN384, ⟨_, gA372, iA373, iB374, iC375, iD376, iE377, iF378, iG379, iH380, gC381, gP382⟩, ⟨by omega, by omega⟩, by (try dsimp only); exact (fun hb => ⟨(hN353 (hN387 hb).1).1, by have y1 := (hN353 (hN387 hb).1).2; have y2 := (hN387 hb).2; rw [show tN383.toInt.toNat = tk.toInt.toNat + 2 by omega]; exact gp_lf2 (by omega) (pa_leaf hok (by omega)) ⟨decide_eq_true (by omega), by omega⟩ (by rw [show tk.toInt.toNat + 1 = tN349.toInt.toNat by omega]; exact y2.1)⟩)⟩)⟩
                  · -- 128
                    refine ax_go 1 (y := (129, [some (.ref o), some (.int l), some (.int z15)], [.int z15], w328, 0, 0)) rfl trivial ?_
                    refine hx_k (l := 131) (m := 15) rfl rfl (by decide) (fun z388 h389 => ?_)
                    refine hx_ic_ne (l := 134) rfl rfl (fun h390 => ?_) (fun h390 => ?_)
                    · -- 148
                      exact ax_ret rfl rfl trivial ⟨none, _, rfl, hw329, hf330, hs332, trivial, (fun o1 h1 => by cases h1; exact ⟨tN349, bN350, ⟨_, gA338, iA339, iB340, iC341, iD342, iE343, iF344, iG345, iH346, gC347, gP348⟩, ⟨by omega, by omega⟩, by (try dsimp only); exact (fun hb => ⟨(hN353 hb).1, by rw [show tN349.toInt.toNat = tk.toInt.toNat + 1 by have := (hN353 hb).2; omega]; exact gp_lf1 (by omega) (pa_leaf hok (by omega)) (fun zz => by have := of_decide_eq_true zz.1; have := zz.2; omega)⟩)⟩)⟩
                    · -- 134
                      refine ax_go 1 (y := (135, [some (.ref o), some (.int l), some (.int z15)], [.ref o], w328, 0, 0)) rfl trivial ?_
                      refine hx_k (l := 136) (m := 0) rfl rfl (by decide) (fun z391 h392 => ?_)
                      refine hx_k (l := 138) (m := 9) rfl rfl (by decide) (fun z393 h394 => ?_)
                      refine hx_p0 (l := 141) (as := [.ref o, .int z391, .int z393]) rfl rfl (hx_iv (j := 156) (n := 2) (o := o) (r := []) rfl rfl gA338 rfl) (hp_X9_mustNumber (fz := fz) hF (pc := pc) (pp := pp) (fc := fc) (fp := fp) (tk := tN349) (e := e) (bd := bN350) (io := io) (fw := fw) (lw := lw) hok ⟨by omega, by omega⟩ (fun q hq => (by decide +kernel : ∀ q ∈ fb_hr_readPart, q ∈ fb_hp_X9_mustNumber) q (hfz q hq)) (d + 2)) hw329 hf330 ⟨(hx_tr (G := G) (s := 30) (b := 0) hG0 (by decide)), (ck_top_ok (G := G) z391), (ck_top_ok (G := G) z393), trivial⟩ (fun o1 h1 => by cases h1; exact ⟨_, gA338, iA339, iB340, iC341, iD342, iE343, iF344, iG345, iH346, gC347, gP348⟩) (fun w395 hw396 hf397 m398 u403 => ?_)
                      have hs399 := ty_same_tr hs332 m398
                      obtain ⟨tN416, bN417, ⟨fsN404, gA405, iA406, iB407, iC408, iD409, iE410, iF411, iG412, iH413, gC414, gP415⟩, ⟨ha418, hb419⟩, hN420⟩ := u403 _ rfl
                      try dsimp only at hN420
                      refine ax_go 1 (y := (148, [some (.ref o), some (.int l), some (.int z15)], [], w395, 0, 0)) rfl trivial ?_
                      exact ax_ret rfl rfl trivial ⟨none, _, rfl, hw396, hf397, hs399, trivial, (fun o1 h1 => by cases h1; exact ⟨tN416, bN417, ⟨_, gA405, iA406, iB407, iC408, iD409, iE410, iF411, iG412, iH413, gC414, gP415⟩, ⟨by omega, by omega⟩, by (try dsimp only); exact (fun hb => ⟨(hN353 (hN420 hb).1).1, by have y1 := (hN353 (hN420 hb).1).2; have y2 := (hN420 hb).2; rw [show tN416.toInt.toNat = tk.toInt.toNat + 2 by omega]; exact gp_lf2 (by omega) (pa_leaf hok (by omega)) ⟨decide_eq_true (by omega), by omega⟩ (by rw [show tk.toInt.toNat + 1 = tN349.toInt.toNat by omega]; exact y2.1)⟩)⟩)⟩
      · -- 27
        refine ax_go 1 (y := (28, [some (.ref o), some (.int l), some (.int z15)], [.int l], w, 0, 0)) rfl trivial ?_
        refine hx_k (l := 30) (m := 8) rfl rfl (by decide) (fun z421 h422 => ?_)
        refine hx_ic_ne (l := 33) rfl rfl (fun h423 => ?_) (fun h423 => ?_)
        · -- 37
          refine ax_go 1 (y := (38, [some (.ref o), some (.int l), some (.int z15)], [.ref o], w, 0, 0)) rfl trivial ?_
          refine hx_pi (l := 41) (as := [.ref o]) rfl rfl (hx_iv (j := 150) (n := 0) (o := o) (r := []) rfl rfl g0 rfl) (hp_X9_fine (fz := fz) hF (fun q hq => (by decide +kernel : ∀ q ∈ fb_hr_readPart, q ∈ fb_hp_X9_fine) q (hfz q hq)) (d + 4)) hw hf ⟨(hx_tr (G := G) (s := 30) (b := 0) hG0 (by decide)), trivial⟩ trivial (fun w424 z429 hw425 hf426 m427 a430 b431 u432 => ?_)
          rw [u432.1]
          have u433 := u432.2 _ _ _ rfl ⟨_, g0, i21⟩ rfl
          clear u432
          have hz434 : z429.toInt = 1 := by omega
          refine hx_if_ne (l := 44) rfl rfl (fun h435 => ?_) (fun h435 => by omega)
          obtain ⟨b1, hb1⟩ : ∃ b1, b = b1 + 1 := ⟨b - 1, by omega⟩
          have lt436 := gc_lt (c := cd fc) (e := e.toInt.toNat) (p := tk.toInt.toNat) (by omega)
          refine ax_go 2 (y := (47, [some (.ref o), some (.int l), some (.int z15)], [.ref o, .ref o], w, 0, 0)) rfl trivial ?_
          refine hx_gf (l := 50) rfl rfl rfl g0 i19 ?_
          refine hx_k (l := 51) (m := 1) rfl rfl (by decide) (fun z437 h438 => ?_)
          refine hx_add (l := 52) rfl rfl (fun z439 h440 => ?_)
          replace h440 := h440 (by omega) (by omega)
          refine hx_pf (q := (0, 0, 0, 0, 0, 400)) (s := 30) (l := 55) (v := .int z439) rfl rfl rfl (by decide) rfl rfl rfl hw hG0 g0 trivial (hx_ti (G := G) (lo := 0) (hi := 400) (by omega) (by omega)) (fun w441 fs442 g443 e444 o445 n446 hw447 n448 => ?_)
          have hs449 := ty_same_tr (ty_same_rf w) (n448 fz (hx_ok hfz (by decide)))
          have hf450 := hFF _ _ (n448 pr_ (by decide)) hf
          refine ax_go 2 (y := (57, [some (.ref o), some (.int l), some (.int z15)], [.int l, .ref o], w441, 0, 0)) rfl trivial ?_
          refine hx_k (l := 58) (m := 1) rfl rfl (by decide) (fun z451 h452 => ?_)
          refine hx_add (l := 59) rfl rfl (fun z453 h454 => ?_)
          replace h454 := h454 (by omega) (by omega)
          refine hx_p0 (l := 62) (as := [.ref o, .int z453]) rfl rfl (hx_iv (j := 163) (n := 1) (o := o) (r := []) rfl rfl g443 rfl) ((ihreadSum b1 (by omega)) pc pp fc fp z439 e bd io fw lw (d + 5) hok ⟨by omega, by omega⟩ (by omega)) hw447 hf450 ⟨(hx_tr (G := G) (s := 30) (b := 0) hG0 (by decide)), (hx_ti (G := G) (lo := 0) (hi := 8) (by omega) (by omega)), trivial⟩ (fun o1 l1 h1 => by cases h1; exact ⟨⟨_, g443, ((o445 15 (by decide)).trans i15), ((o445 17 (by decide)).trans i17), e444, ((o445 18 (by decide)).trans i18), ((o445 21 (by decide)).trans i21), ((o445 10 (by decide)).trans i10), ((o445 8 (by decide)).trans i8), ((o445 9 (by decide)).trans i9), ((n446 _ (hx_ne hG_pc hG0 (by decide))).trans gc0), ((n446 _ (hx_ne hG_pp hG0 (by decide))).trans gp0)⟩, by omega⟩) (fun w455 hw456 hf457 m458 u463 => ?_)
          have hs459 := ty_same_tr hs449 m458
          obtain ⟨tN476, bN477, ⟨fsN464, gA465, iA466, iB467, iC468, iD469, iE470, iF471, iG472, iH473, gC474, gP475⟩, ⟨ha478, hb479⟩, hN480⟩ := u463 _ rfl
          try dsimp only at hN480
          refine ax_go 1 (y := (63, [some (.ref o), some (.int l), some (.int z15)], [.ref o], w455, 0, 0)) rfl trivial ?_
          refine hx_k (l := 65) (m := 93) rfl rfl (by decide) (fun z481 h482 => ?_)
          refine hx_pi (l := 68) (as := [.int z481]) rfl rfl rfl (hp_X9_sign (fz := fz) hF (fun q hq => (by decide +kernel : ∀ q ∈ fb_hr_readPart, q ∈ fb_hp_X9_sign) q (hfz q hq)) (d + 4)) hw456 hf457 ⟨(hx_ti (G := G) (lo := 0) (hi := 255) (by omega) (by omega)), trivial⟩ trivial (fun w483 z488 hw484 hf485 m486 a489 b490 u491 => ?_)
          rw [u491.1]
          have u492 := u491.2 _ _ rfl rfl
          refine hx_p0 (l := 71) (as := [.ref o, .int z488]) rfl rfl (hx_iv (j := 153) (n := 1) (o := o) (r := []) rfl rfl gA465 rfl) (hp_X9_must (fz := fz) hF (pc := pc) (pp := pp) (fc := fc) (fp := fp) (tk := tN476) (e := e) (bd := bN477) (io := io) (fw := fw) (lw := lw) hok ⟨by omega, by omega⟩ (fun q hq => (by decide +kernel : ∀ q ∈ fb_hr_readPart, q ∈ fb_hp_X9_must) q (hfz q hq)) (d + 2)) hw456 hf457 ⟨(hx_tr (G := G) (s := 30) (b := 0) hG0 (by decide)), (hx_ti (G := G) (lo := 1) (hi := 355) (by omega) (by omega)), trivial⟩ (fun o1 h1 => by cases h1; exact ⟨_, gA465, iA466, iB467, iC468, iD469, iE470, iF471, iG472, iH473, gC474, gP475⟩) (fun w493 hw494 hf495 m496 u501 => ?_)
          have hs497 := ty_same_tr hs459 m496
          obtain ⟨tN514, bN515, ⟨fsN502, gA503, iA504, iB505, iC506, iD507, iE508, iF509, iG510, iH511, gC512, gP513⟩, ⟨ha516, hb517⟩, hN518⟩ := u501 _ _ rfl _ rfl
          try dsimp only at hN518
          refine ax_go 1 (y := (148, [some (.ref o), some (.int l), some (.int z15)], [], w493, 0, 0)) rfl trivial ?_
          exact ax_ret rfl rfl trivial ⟨none, _, rfl, hw494, hf495, hs497, trivial, (fun o1 h1 => by cases h1; exact ⟨tN514, bN515, ⟨_, gA503, iA504, iB505, iC506, iD507, iE508, iF509, iG510, iH511, gC512, gP513⟩, ⟨by omega, by omega⟩, by (try dsimp only); exact (fun hb => ⟨by have := (hN480 (hN518 hb).1).1; omega, by rw [hb1, show tN514.toInt.toNat = tN476.toInt.toNat + 1 by have := (hN518 hb).2.2; omega]; exact gp_br (by omega) (by rw [show tk.toInt.toNat + 1 = z439.toInt.toNat by omega]; exact (hN480 (hN518 hb).1).2) (by have := (hN518 hb).2.1; omega)⟩)⟩)⟩
        · -- 33
          refine ax_go 1 (y := (34, [some (.ref o), some (.int l), some (.int z15)], [.ref o], w, 0, 0)) rfl trivial ?_
          refine hx_p0 (l := 37) (as := [.ref o]) rfl rfl (hx_iv (j := 151) (n := 0) (o := o) (r := []) rfl rfl g0 rfl) (hp_X9_faults (fz := fz) hF (pc := pc) (pp := pp) (fc := fc) (fp := fp) (tk := tk) (e := e) (bd := bd) (io := io) (fw := fw) (lw := lw) hok ⟨by omega, by omega⟩ (fun q hq => (by decide +kernel : ∀ q ∈ fb_hr_readPart, q ∈ fb_hp_X9_faults) q (hfz q hq)) (d + 3)) hw hf ⟨(hx_tr (G := G) (s := 30) (b := 0) hG0 (by decide)), trivial⟩ (fun o1 h1 => by cases h1; exact ⟨_, g0, i15, i17, i19, i18, i21, i10, i8, i9, gc0, gp0⟩) (fun w519 hw520 hf521 m522 u527 => ?_)
          have hs523 := ty_same_tr (ty_same_rf w) m522
          obtain ⟨bN540, ⟨fsN528, gA529, iA530, iB531, iC532, iD533, iE534, iF535, iG536, iH537, gC538, gP539⟩, hN541⟩ := u527 _ rfl
          refine ax_go 1 (y := (38, [some (.ref o), some (.int l), some (.int z15)], [.ref o], w519, 0, 0)) rfl trivial ?_
          refine hx_pi (l := 41) (as := [.ref o]) rfl rfl (hx_iv (j := 150) (n := 0) (o := o) (r := []) rfl rfl gA529 rfl) (hp_X9_fine (fz := fz) hF (fun q hq => (by decide +kernel : ∀ q ∈ fb_hr_readPart, q ∈ fb_hp_X9_fine) q (hfz q hq)) (d + 4)) hw520 hf521 ⟨(hx_tr (G := G) (s := 30) (b := 0) hG0 (by decide)), trivial⟩ trivial (fun w542 z547 hw543 hf544 m545 a548 b549 u550 => ?_)
          rw [u550.1]
          have u551 := u550.2 _ _ _ rfl ⟨_, gA529, iE534⟩ rfl
          clear u550
          have hz552 : z547.toInt = 0 := by omega
          refine hx_if_ne (l := 44) rfl rfl (fun h553 => by omega) (fun h553 => ?_)
          exact ax_ret rfl rfl trivial ⟨none, _, rfl, hw520, hf521, hs523, trivial, (fun o1 h1 => by cases h1; exact ⟨tk, bN540, ⟨_, gA529, iA530, iB531, iC532, iD533, iE534, iF535, iG536, iH537, gC538, gP539⟩, ⟨by omega, by omega⟩, by (try dsimp only); exact (fun hb => absurd hb (by omega))⟩)⟩
    · -- fine 0
      refine hx_if_ne (l := 7) rfl rfl (fun h554 => by omega) (fun h554 => ?_)
      exact ax_ret rfl rfl trivial ⟨none, _, rfl, hw, hf, (ty_same_rf w), trivial, (fun o1 h1 => by cases h1; exact ⟨tk, bd, ⟨_, g0, i15, i17, i19, i18, i21, i10, i8, i9, gc0, gp0⟩, ⟨by omega, by omega⟩, by (try dsimp only); exact (fun hb => absurd hb (by omega))⟩)⟩
def fb_hr_readPlain : List (Nat × Nat) := [(8, 3), (8, 5), (19, 999), (32, 999), (33, 999), (34, 999), (35, 999), (44, 999), (45, 999), (1, 0), (18, 999), (2, 11), (2, 14), (1, 15), (54, 11), (4, 2), (7, 9), (30, 13), (30, 34), (30, 2), (30, 22), (30, 23), (30, 24), (30, 25), (46, 999), (47, 999), (30, 35), (30, 36), (7, 0), (24, 999), (37, 999), (30, 4), (30, 5), (30, 6), (30, 8), (30, 9), (30, 10), (30, 11), (30, 14), (30, 15), (30, 16), (30, 17), (30, 18), (30, 20), (39, 999), (40, 999), (41, 999), (30, 30), (30, 42), (30, 43), (30, 44), (1, 1), (1, 3), (1, 10), (1, 13), (8, 0), (30, 49), (2, 15), (8, 1)]
set_option maxHeartbeats 8000000 in
theorem hr_readPlain {ro : ab_R} {G : Nat → Nat} {fz : List (Nat × Nat)} {F : ab_W → Prop} (hF : ∀ w w', smt G w w' → F w → F w') (d : Nat) {pc pp : Nat} {fc fp : Nat → Int32} {tk e bd io fw lw : Int32} (hok : pa_ok fc fp e io fw lw) (htk : 0 ≤ tk.toInt ∧ tk.toInt ≤ e.toInt) {b : Nat} (hD : 6 * b + 10 ≤ d + 6) (ihreadSum : ReK ro G F fz b 2 163 8) (ihreadTest : ∀ b1, b1 < b → ReK ro G F fz b1 9 160 12) (hfz : ∀ q ∈ fz, q ∈ fb_hr_readPlain) : hx_ct ro sp_ G (F9 G F) fz (ab_Ev ro ab_codes (d + 6)) 162 [(2, 30, 0), (0, 0, 8)] none (paPd pc pp fc fp tk e bd io fw lw b) (paR pc pp fc fp tk e bd io fw lw (fun t => GP (cd fc) e.toInt.toNat (decide (io.toInt ≠ 0)) b 6 tk.toInt.toNat t.toInt.toNat)) := by
  have hFF := F9_same hF
  refine hx_hand (d := d + 5) (by decide) (fun as w hw hf has hP => ?_)
  match as, has with
  | [v0, v1], ⟨h0, h1, _⟩ =>
    obtain ⟨o, rfl, _, hG0⟩ := ty_refn h0 rfl rfl
    replace hG0 : G o = 30 := hG0
    obtain ⟨l, rfl, hl1, hh1⟩ := ty_int h1 rfl
    replace hl1 : (0 : Int) ≤ l.toInt := hl1
    replace hh1 : l.toInt ≤ 8 := hh1
    refine ⟨rfl, ?_⟩
    obtain ⟨fs0, g0, i15, i17, i19, i18, i21, i10, i8, i9, gc0, gp0⟩ := (hP o l rfl).1
    obtain ⟨⟨he0, he1⟩, hz0, hpl, -, -⟩ := id hok
    have hfw := pa_fw hok
    have hG_pc := pa_r15 hw g0 hG0 i15
    have hG_pp := pa_r17 hw g0 hG0 i17
    have hl8 := (hP o l rfl).2
    have ct2 : ∀ (nq : Nat) (w1 : ab_W) (mo : Int32) (u3 : Option Int32) (tq : Int32) (bq : Int32), ty_w sp_ G w1 → (F9 G F) w1 → ty_same G fz w w1 → (hx_has w1 o 9 19 (.int tq)) → (hx_has w1 o 9 21 (.int bq)) → (hx_has w1 o 9 15 (.ref pc)) → (hx_has w1 o 9 17 (.ref pp)) → (hx_has w1 o 9 18 (.int e)) → (hx_has w1 o 9 10 (.int io)) → (hx_has w1 o 9 8 (.int fw)) → (hx_has w1 o 9 9 (.int lw)) → (w1[pc]? = some (.inl (0, 401, .inl fc))) → (w1[pp]? = some (.inl (0, 401, .inl fp))) → (tk.toInt ≤ tq.toInt) → (tq.toInt ≤ e.toInt) → (0 ≤ mo.toInt) → (mo.toInt ≤ 1) → (bq.toInt = -1 → bd.toInt = -1 ∧ ∀ q, GP (cd fc) e.toInt.toNat (decide (io.toInt ≠ 0)) b 6 tq.toInt.toNat q → GP (cd fc) e.toInt.toNat (decide (io.toInt ≠ 0)) b 6 tk.toInt.toNat q) → (mo.toInt = 0 → ¬ (bq.toInt = -1 ∧ gc (cd fc) e.toInt.toNat tq.toInt.toNat = 8)) → (2 * (401 - tq.toInt) + mo.toInt).toNat < nq → ab_wp ro (ab_Ev ro ab_codes (d + 5)) 9 false none ab_k_X9_readPlain (fun o_1 => ∃ v w1, o_1 = (v, w1, 0, 0) ∧ ty_w sp_ G w1 ∧ (F9 G F) w1 ∧ ty_same G fz w w1 ∧ ck_res G none v ∧ (paR pc pp fc fp tk e bd io fw lw (fun t => GP (cd fc) e.toInt.toNat (decide (io.toInt ≠ 0)) b 6 tk.toInt.toNat t.toInt.toNat)) ([.ref o, .int l] : List Value) w v w1) (2, [some (.ref o), some (.int l), some (.int mo), (u3.map Value.int)], [], w1, 0, 0) := by
      intro nq
      induction nq with
      | zero => intro w1 mo u3 tq bq hw16 hf17 hs18 hh2 hh3 hh4 hh5 hh6 hh7 hh8 hh9 g10 g11 i12 i13 i14 i15 hgq hmo hm; exact absurd hm (Nat.not_lt_zero _)
      | succ nq ih2 =>
        intro w1 mo u3 tq bq hw16 hf17 hs18 hh2 hh3 hh4 hh5 hh6 hh7 hh8 hh9 g10 g11 i12 i13 i14 i15 hgq hmo hm2
        obtain ⟨fs19, g20, e21⟩ := hh2
        have q22 := hx_oq hw16 g20 hG0 (s := 30) rfl
        obtain ⟨x23, e24, a25, b26⟩ := hx_fi (k := 19) (lo := 0) (hi := 400) q22 rfl
        obtain rfl : tq = x23 := hx_inji e21 e24
        obtain ⟨fs27, g28, e29⟩ := hh3
        obtain rfl : fs19 = fs27 := hx_inj g20 g28
        obtain ⟨x30, e31, a32, b33⟩ := hx_fi (k := 21) (lo := (-2147483648)) (hi := 2147483647) q22 rfl
        obtain rfl : bq = x30 := hx_inji e29 e31
        obtain ⟨fs34, g35, e36⟩ := hh4
        obtain rfl : fs19 = fs34 := hx_inj g20 g35
        obtain ⟨fs37, g38, e39⟩ := hh5
        obtain rfl : fs19 = fs37 := hx_inj g20 g38
        obtain ⟨fs40, g41, e42⟩ := hh6
        obtain rfl : fs19 = fs40 := hx_inj g20 g41
        obtain ⟨fs43, g44, e45⟩ := hh7
        obtain rfl : fs19 = fs43 := hx_inj g20 g44
        obtain ⟨fs46, g47, e48⟩ := hh8
        obtain rfl : fs19 = fs46 := hx_inj g20 g47
        obtain ⟨fs49, g50, e51⟩ := hh9
        obtain rfl : fs19 = fs49 := hx_inj g20 g50
        refine ax_go 1 (y := (3, [some (.ref o), some (.int l), some (.int mo), (u3.map Value.int)], [.int mo], w1, 0, 0)) rfl trivial ?_
        refine hx_if_eq (l := 6) rfl rfl (fun h52 => ?_) (fun h52 => ?_)
        · -- 16
          have hm8 := hmo (by omega)
          refine ax_go 1 (y := (17, [some (.ref o), some (.int l), some (.int mo), (u3.map Value.int)], [.ref o], w1, 0, 0)) rfl trivial ?_
          refine hx_pi (l := 20) (as := [.ref o]) rfl rfl (hx_iv (j := 150) (n := 0) (o := o) (r := []) rfl rfl g20 rfl) (hp_X9_fine (fz := fz) hF (fun q hq => (by decide +kernel : ∀ q ∈ fb_hr_readPlain, q ∈ fb_hp_X9_fine) q (hfz q hq)) (d + 4)) hw16 hf17 ⟨(hx_tr (G := G) (s := 30) (b := 0) hG0 (by decide)), trivial⟩ trivial (fun w53 z58 hw54 hf55 m56 a59 b60 u61 => ?_)
          rw [u61.1]
          have u62 := u61.2 _ _ _ rfl ⟨_, g20, e29⟩ rfl
          clear u61
          rcases u62 with ⟨hz63, hb64⟩ | ⟨hz63, hb64⟩
          · -- fine 1
            refine hx_if_ne (l := 23) rfl rfl (fun h65 => ?_) (fun h65 => by omega)
            refine ax_go 1 (y := (25, [some (.ref o), some (.int l), some (.int mo), (u3.map Value.int)], [.ref o], w1, 0, 0)) rfl trivial ?_
            refine hx_gf (l := 28) rfl rfl rfl g20 e36 ?_
            refine ax_go 1 (y := (29, [some (.ref o), some (.int l), some (.int mo), (u3.map Value.int)], [.ref o, .ref pc], w1, 0, 0)) rfl trivial ?_
            refine hx_gf (l := 32) rfl rfl rfl g20 e21 ?_
            have r66 := hx_rq hw16 g10 hG_pc (s := 39) rfl
            refine hx_il (l := 33) rfl rfl g10 (by omega) (by omega) (fun z67 h68 => ?_)
            have u69 : gc (cd fc) e.toInt.toNat tq.toInt.toNat = z67.toInt := by rw [pa_gc hok ⟨by omega, by omega⟩, h68]
            refine ax_go 2 (y := (35, [some (.ref o), some (.int l), some (.int mo), some (.int z67)], [.int z67], w1, 0, 0)) rfl trivial ?_
            refine hx_k (l := 37) (m := 40) rfl rfl (by decide) (fun z70 h71 => ?_)
            refine hx_pi (l := 40) (as := [.int z70]) rfl rfl rfl (hp_X9_sign (fz := fz) hF (fun q hq => (by decide +kernel : ∀ q ∈ fb_hr_readPlain, q ∈ fb_hp_X9_sign) q (hfz q hq)) (d + 4)) hw16 hf17 ⟨(hx_ti (G := G) (lo := 0) (hi := 255) (by omega) (by omega)), trivial⟩ trivial (fun w72 z77 hw73 hf74 m75 a78 b79 u80 => ?_)
            rw [u80.1]
            have u81 := u80.2 _ _ rfl rfl
            refine hx_ic_ne (l := 43) rfl rfl (fun h82 => ?_) (fun h82 => ?_)
            · -- 90
              refine ax_go 2 (y := (92, [some (.ref o), some (.int l), some (.int mo), some (.int z67)], [.int l, .ref o], w1, 0, 0)) rfl trivial ?_
              refine hx_p0 (l := 95) (as := [.ref o, .int l]) rfl rfl (hx_iv (j := 163) (n := 1) (o := o) (r := []) rfl rfl g20 rfl) (ihreadSum pc pp fc fp tq e bq io fw lw (d + 5) hok ⟨by omega, by omega⟩ (by omega)) hw16 hf17 ⟨(hx_tr (G := G) (s := 30) (b := 0) hG0 (by decide)), (hx_ti (G := G) (lo := 0) (hi := 8) (by omega) (by omega)), trivial⟩ (fun o1 l1 h1 => by cases h1; exact ⟨⟨_, g20, e36, e39, e21, e42, e29, e45, e48, e51, g10, g11⟩, by omega⟩) (fun w83 hw84 hf85 m86 u91 => ?_)
              have hs87 := ty_same_tr hs18 m86
              obtain ⟨tN104, bN105, ⟨fsN92, gA93, iA94, iB95, iC96, iD97, iE98, iF99, iG100, iH101, gC102, gP103⟩, ⟨ha106, hb107⟩, hN108⟩ := u91 _ rfl
              try dsimp only at hN108
              refine ax_go 1 (y := (96, [some (.ref o), some (.int l), some (.int mo), some (.int z67)], [.ref o], w83, 0, 0)) rfl trivial ?_
              refine hx_k (l := 98) (m := 60) rfl rfl (by decide) (fun z109 h110 => ?_)
              refine hx_pi (l := 101) (as := [.int z109]) rfl rfl rfl (hp_X9_sign (fz := fz) hF (fun q hq => (by decide +kernel : ∀ q ∈ fb_hr_readPlain, q ∈ fb_hp_X9_sign) q (hfz q hq)) (d + 4)) hw84 hf85 ⟨(hx_ti (G := G) (lo := 0) (hi := 255) (by omega) (by omega)), trivial⟩ trivial (fun w111 z116 hw112 hf113 m114 a117 b118 u119 => ?_)
              rw [u119.1]
              have u120 := u119.2 _ _ rfl rfl
              refine hx_pi (l := 104) (as := [.ref o, .int z116]) rfl rfl (hx_iv (j := 152) (n := 1) (o := o) (r := []) rfl rfl gA93 rfl) (hp_X9_takes0 (fz := fz) hF (pc := pc) (pp := pp) (fc := fc) (fp := fp) (tk := tN104) (e := e) (bd := bN105) (io := io) (fw := fw) (lw := lw) hok ⟨by omega, by omega⟩ (fun q hq => (by decide +kernel : ∀ q ∈ fb_hr_readPlain, q ∈ fb_hp_X9_takes0) q (hfz q hq)) (d + 3)) hw84 hf85 ⟨(hx_tr (G := G) (s := 30) (b := 0) hG0 (by decide)), (hx_ti (G := G) (lo := 1) (hi := 355) (by omega) (by omega)), trivial⟩ (fun o1 h1 => by cases h1; exact ⟨_, gA93, iA94, iB95, iC96, iD97, iE98, iF99, iG100, iH101, gC102, gP103⟩) (fun w121 z126 hw122 hf123 m124 a127 b128 u129 => ?_)
              have hs125 := ty_same_tr hs87 m124
              rcases u129 _ _ _ rfl rfl with ⟨hz142, hb143, hg144, tN145, ⟨fsN130, gA131, iA132, iB133, iC134, iD135, iE136, iF137, iG138, iH139, gC140, gP141⟩, ht146, hu147⟩ | ⟨hz142, hg144, ⟨fsN130, gA131, iA132, iB133, iC134, iD135, iE136, iF137, iG138, iH139, gC140, gP141⟩⟩
              · -- taken 1
                refine hx_if_ne (l := 107) rfl rfl (fun h148 => ?_) (fun h148 => by omega)
                refine ax_go 2 (y := (130, [some (.ref o), some (.int l), some (.int mo), some (.int z67)], [.int l, .ref o], w121, 0, 0)) rfl trivial ?_
                refine hx_p0 (l := 133) (as := [.ref o, .int l]) rfl rfl (hx_iv (j := 163) (n := 1) (o := o) (r := []) rfl rfl gA131 rfl) (ihreadSum pc pp fc fp tN145 e bN105 io fw lw (d + 5) hok ⟨by omega, by omega⟩ (by omega)) hw122 hf123 ⟨(hx_tr (G := G) (s := 30) (b := 0) hG0 (by decide)), (hx_ti (G := G) (lo := 0) (hi := 8) (by omega) (by omega)), trivial⟩ (fun o1 l1 h1 => by cases h1; exact ⟨⟨_, gA131, iA132, iB133, iC134, iD135, iE136, iF137, iG138, iH139, gC140, gP141⟩, by omega⟩) (fun w149 hw150 hf151 m152 u157 => ?_)
                have hs153 := ty_same_tr hs125 m152
                obtain ⟨tN170, bN171, ⟨fsN158, gA159, iA160, iB161, iC162, iD163, iE164, iF165, iG166, iH167, gC168, gP169⟩, ⟨ha172, hb173⟩, hN174⟩ := u157 _ rfl
                try dsimp only at hN174
                exact ax_ret rfl rfl trivial ⟨none, _, rfl, hw150, hf151, hs153, trivial, (fun o1 h1 => by cases h1; exact ⟨tN170, bN171, ⟨_, gA159, iA160, iB161, iC162, iD163, iE164, iF165, iG166, iH167, gC168, gP169⟩, ⟨by omega, by omega⟩, by (try dsimp only); exact (fun hb => ⟨(hgq (hN108 (hN174 hb).1).1).1, (hgq (hN108 (hN174 hb).1).1).2 _ (gp_not0 (by omega) (gp_cmp (y := tN104.toInt.toNat) (by omega) (hN108 (hN174 hb).1).2 (by omega) (by rw [show tN104.toInt.toNat + 1 = tN145.toInt.toNat by omega]; exact (hN174 hb).2)))⟩)⟩)⟩
              · -- taken 0
                refine hx_if_ne (l := 107) rfl rfl (fun h175 => by omega) (fun h175 => ?_)
                refine ax_go 1 (y := (108, [some (.ref o), some (.int l), some (.int mo), some (.int z67)], [.ref o], w121, 0, 0)) rfl trivial ?_
                refine hx_k (l := 110) (m := 62) rfl rfl (by decide) (fun z176 h177 => ?_)
                refine hx_pi (l := 113) (as := [.int z176]) rfl rfl rfl (hp_X9_sign (fz := fz) hF (fun q hq => (by decide +kernel : ∀ q ∈ fb_hr_readPlain, q ∈ fb_hp_X9_sign) q (hfz q hq)) (d + 4)) hw122 hf123 ⟨(hx_ti (G := G) (lo := 0) (hi := 255) (by omega) (by omega)), trivial⟩ trivial (fun w178 z183 hw179 hf180 m181 a184 b185 u186 => ?_)
                rw [u186.1]
                have u187 := u186.2 _ _ rfl rfl
                refine hx_pi (l := 116) (as := [.ref o, .int z183]) rfl rfl (hx_iv (j := 152) (n := 1) (o := o) (r := []) rfl rfl gA131 rfl) (hp_X9_takes0 (fz := fz) hF (pc := pc) (pp := pp) (fc := fc) (fp := fp) (tk := tN104) (e := e) (bd := bN105) (io := io) (fw := fw) (lw := lw) hok ⟨by omega, by omega⟩ (fun q hq => (by decide +kernel : ∀ q ∈ fb_hr_readPlain, q ∈ fb_hp_X9_takes0) q (hfz q hq)) (d + 3)) hw122 hf123 ⟨(hx_tr (G := G) (s := 30) (b := 0) hG0 (by decide)), (hx_ti (G := G) (lo := 1) (hi := 355) (by omega) (by omega)), trivial⟩ (fun o1 h1 => by cases h1; exact ⟨_, gA131, iA132, iB133, iC134, iD135, iE136, iF137, iG138, iH139, gC140, gP141⟩) (fun w188 z193 hw189 hf190 m191 a194 b195 u196 => ?_)
                have hs192 := ty_same_tr hs125 m191
                rcases u196 _ _ _ rfl rfl with ⟨hz209, hb210, hg211, tN212, ⟨fsN197, gA198, iA199, iB200, iC201, iD202, iE203, iF204, iG205, iH206, gC207, gP208⟩, ht213, hu214⟩ | ⟨hz209, hg211, ⟨fsN197, gA198, iA199, iB200, iC201, iD202, iE203, iF204, iG205, iH206, gC207, gP208⟩⟩
                · -- taken 1
                  refine hx_if_ne (l := 119) rfl rfl (fun h215 => ?_) (fun h215 => by omega)
                  refine ax_go 2 (y := (130, [some (.ref o), some (.int l), some (.int mo), some (.int z67)], [.int l, .ref o], w188, 0, 0)) rfl trivial ?_
                  refine hx_p0 (l := 133) (as := [.ref o, .int l]) rfl rfl (hx_iv (j := 163) (n := 1) (o := o) (r := []) rfl rfl gA198 rfl) (ihreadSum pc pp fc fp tN212 e bN105 io fw lw (d + 5) hok ⟨by omega, by omega⟩ (by omega)) hw189 hf190 ⟨(hx_tr (G := G) (s := 30) (b := 0) hG0 (by decide)), (hx_ti (G := G) (lo := 0) (hi := 8) (by omega) (by omega)), trivial⟩ (fun o1 l1 h1 => by cases h1; exact ⟨⟨_, gA198, iA199, iB200, iC201, iD202, iE203, iF204, iG205, iH206, gC207, gP208⟩, by omega⟩) (fun w216 hw217 hf218 m219 u224 => ?_)
                  have hs220 := ty_same_tr hs192 m219
                  obtain ⟨tN237, bN238, ⟨fsN225, gA226, iA227, iB228, iC229, iD230, iE231, iF232, iG233, iH234, gC235, gP236⟩, ⟨ha239, hb240⟩, hN241⟩ := u224 _ rfl
                  try dsimp only at hN241
                  exact ax_ret rfl rfl trivial ⟨none, _, rfl, hw217, hf218, hs220, trivial, (fun o1 h1 => by cases h1; exact ⟨tN237, bN238, ⟨_, gA226, iA227, iB228, iC229, iD230, iE231, iF232, iG233, iH234, gC235, gP236⟩, ⟨by omega, by omega⟩, by (try dsimp only); exact (fun hb => ⟨(hgq (hN108 (hN241 hb).1).1).1, (hgq (hN108 (hN241 hb).1).1).2 _ (gp_not0 (by omega) (gp_cmp (y := tN104.toInt.toNat) (by omega) (hN108 (hN241 hb).1).2 (by omega) (by rw [show tN104.toInt.toNat + 1 = tN212.toInt.toNat by omega]; exact (hN241 hb).2)))⟩)⟩)⟩
                · -- taken 0
                  refine hx_if_ne (l := 119) rfl rfl (fun h242 => by omega) (fun h242 => ?_)
                  refine ax_go 1 (y := (120, [some (.ref o), some (.int l), some (.int mo), some (.int z67)], [.ref o], w188, 0, 0)) rfl trivial ?_
                  refine hx_k (l := 122) (m := 61) rfl rfl (by decide) (fun z243 h244 => ?_)
                  refine hx_pi (l := 125) (as := [.int z243]) rfl rfl rfl (hp_X9_sign (fz := fz) hF (fun q hq => (by decide +kernel : ∀ q ∈ fb_hr_readPlain, q ∈ fb_hp_X9_sign) q (hfz q hq)) (d + 4)) hw189 hf190 ⟨(hx_ti (G := G) (lo := 0) (hi := 255) (by omega) (by omega)), trivial⟩ trivial (fun w245 z250 hw246 hf247 m248 a251 b252 u253 => ?_)
                  rw [u253.1]
                  have u254 := u253.2 _ _ rfl rfl
                  refine hx_p0 (l := 128) (as := [.ref o, .int z250]) rfl rfl (hx_iv (j := 153) (n := 1) (o := o) (r := []) rfl rfl gA198 rfl) (hp_X9_must (fz := fz) hF (pc := pc) (pp := pp) (fc := fc) (fp := fp) (tk := tN104) (e := e) (bd := bN105) (io := io) (fw := fw) (lw := lw) hok ⟨by omega, by omega⟩ (fun q hq => (by decide +kernel : ∀ q ∈ fb_hr_readPlain, q ∈ fb_hp_X9_must) q (hfz q hq)) (d + 2)) hw189 hf190 ⟨(hx_tr (G := G) (s := 30) (b := 0) hG0 (by decide)), (hx_ti (G := G) (lo := 1) (hi := 355) (by omega) (by omega)), trivial⟩ (fun o1 h1 => by cases h1; exact ⟨_, gA198, iA199, iB200, iC201, iD202, iE203, iF204, iG205, iH206, gC207, gP208⟩) (fun w255 hw256 hf257 m258 u263 => ?_)
                  have hs259 := ty_same_tr hs192 m258
                  obtain ⟨tN276, bN277, ⟨fsN264, gA265, iA266, iB267, iC268, iD269, iE270, iF271, iG272, iH273, gC274, gP275⟩, ⟨ha278, hb279⟩, hN280⟩ := u263 _ _ rfl _ rfl
                  try dsimp only at hN280
                  refine ax_go 2 (y := (130, [some (.ref o), some (.int l), some (.int mo), some (.int z67)], [.int l, .ref o], w255, 0, 0)) rfl trivial ?_
                  refine hx_p0 (l := 133) (as := [.ref o, .int l]) rfl rfl (hx_iv (j := 163) (n := 1) (o := o) (r := []) rfl rfl gA265 rfl) (ihreadSum pc pp fc fp tN276 e bN277 io fw lw (d + 5) hok ⟨by omega, by omega⟩ (by omega)) hw256 hf257 ⟨(hx_tr (G := G) (s := 30) (b := 0) hG0 (by decide)), (hx_ti (G := G) (lo := 0) (hi := 8) (by omega) (by omega)), trivial⟩ (fun o1 l1 h1 => by cases h1; exact ⟨⟨_, gA265, iA266, iB267, iC268, iD269, iE270, iF271, iG272, iH273, gC274, gP275⟩, by omega⟩) (fun w281 hw282 hf283 m284 u289 => ?_)
                  have hs285 := ty_same_tr hs259 m284
                  obtain ⟨tN302, bN303, ⟨fsN290, gA291, iA292, iB293, iC294, iD295, iE296, iF297, iG298, iH299, gC300, gP301⟩, ⟨ha304, hb305⟩, hN306⟩ := u289 _ rfl
                  try dsimp only at hN306
                  exact ax_ret rfl rfl trivial ⟨none, _, rfl, hw282, hf283, hs285, trivial, (fun o1 h1 => by cases h1; exact ⟨tN302, bN303, ⟨_, gA291, iA292, iB293, iC294, iD295, iE296, iF297, iG298, iH299, gC300, gP301⟩, ⟨by omega, by omega⟩, by (try dsimp only); exact (fun hb => by have y3 := hN306 hb; have y2 := hN280 y3.1; have y1 := hN108 y2.1; have z1 := y2.2.1; have z2 := y2.2.2; exact ⟨(hgq y1.1).1, (hgq y1.1).2 _ (gp_not0 (by omega) (gp_cmp (y := tN104.toInt.toNat) (by omega) y1.2 (by omega) (by rw [show tN104.toInt.toNat + 1 = tN276.toInt.toNat by omega]; exact y3.2)))⟩)⟩)⟩
            · -- 43
              refine ax_go 1 (y := (44, [some (.ref o), some (.int l), some (.int mo), some (.int z67)], [.int l], w1, 0, 0)) rfl trivial ?_
              refine hx_k (l := 46) (m := 8) rfl rfl (by decide) (fun z307 h308 => ?_)
              refine hx_ic_ne (l := 49) rfl rfl (fun h309 => ?_) (fun h309 => ?_)
              · -- 53
                refine ax_go 1 (y := (54, [some (.ref o), some (.int l), some (.int mo), some (.int z67)], [.ref o], w1, 0, 0)) rfl trivial ?_
                refine hx_pi (l := 57) (as := [.ref o]) rfl rfl (hx_iv (j := 150) (n := 0) (o := o) (r := []) rfl rfl g20 rfl) (hp_X9_fine (fz := fz) hF (fun q hq => (by decide +kernel : ∀ q ∈ fb_hr_readPlain, q ∈ fb_hp_X9_fine) q (hfz q hq)) (d + 4)) hw16 hf17 ⟨(hx_tr (G := G) (s := 30) (b := 0) hG0 (by decide)), trivial⟩ trivial (fun w310 z315 hw311 hf312 m313 a316 b317 u318 => ?_)
                rw [u318.1]
                have u319 := u318.2 _ _ _ rfl ⟨_, g20, e29⟩ rfl
                clear u318
                have hz320 : z315.toInt = 1 := by omega
                refine hx_if_ne (l := 60) rfl rfl (fun h321 => ?_) (fun h321 => by omega)
                obtain ⟨b1, hb1⟩ : ∃ b1, b = b1 + 1 := ⟨b - 1, by omega⟩
                have lt322 := gc_lt (c := cd fc) (e := e.toInt.toNat) (p := tq.toInt.toNat) (by omega)
                refine ax_go 2 (y := (63, [some (.ref o), some (.int l), some (.int mo), some (.int z67)], [.ref o, .ref o], w1, 0, 0)) rfl trivial ?_
                refine hx_gf (l := 66) rfl rfl rfl g20 e21 ?_
                refine hx_k (l := 67) (m := 1) rfl rfl (by decide) (fun z323 h324 => ?_)
                refine hx_add (l := 68) rfl rfl (fun z325 h326 => ?_)
                replace h326 := h326 (by omega) (by omega)
                refine hx_pf (q := (0, 0, 0, 0, 0, 400)) (s := 30) (l := 71) (v := .int z325) rfl rfl rfl (by decide) rfl rfl rfl hw16 hG0 g20 trivial (hx_ti (G := G) (lo := 0) (hi := 400) (by omega) (by omega)) (fun w327 fs328 g329 e330 o331 n332 hw333 n334 => ?_)
                have hs335 := ty_same_tr hs18 (n334 fz (hx_ok hfz (by decide)))
                have hf336 := hFF _ _ (n334 pr_ (by decide)) hf17
                refine ax_go 2 (y := (73, [some (.ref o), some (.int l), some (.int mo), some (.int z67)], [.int l, .ref o], w327, 0, 0)) rfl trivial ?_
                refine hx_k (l := 74) (m := 1) rfl rfl (by decide) (fun z337 h338 => ?_)
                refine hx_add (l := 75) rfl rfl (fun z339 h340 => ?_)
                replace h340 := h340 (by omega) (by omega)
                refine hx_p0 (l := 78) (as := [.ref o, .int z339]) rfl rfl (hx_iv (j := 160) (n := 1) (o := o) (r := []) rfl rfl g329 rfl) ((ihreadTest b1 (by omega)) pc pp fc fp z325 e bq io fw lw (d + 5) hok ⟨by omega, by omega⟩ (by omega)) hw333 hf336 ⟨(hx_tr (G := G) (s := 30) (b := 0) hG0 (by decide)), (hx_ti (G := G) (lo := 0) (hi := 8) (by omega) (by omega)), trivial⟩ (fun o1 l1 h1 => by cases h1; exact ⟨⟨_, g329, ((o331 15 (by decide)).trans e36), ((o331 17 (by decide)).trans e39), e330, ((o331 18 (by decide)).trans e42), ((o331 21 (by decide)).trans e29), ((o331 10 (by decide)).trans e45), ((o331 8 (by decide)).trans e48), ((o331 9 (by decide)).trans e51), ((n332 _ (hx_ne hG_pc hG0 (by decide))).trans g10), ((n332 _ (hx_ne hG_pp hG0 (by decide))).trans g11)⟩, by omega⟩) (fun w341 hw342 hf343 m344 u349 => ?_)
                have hs345 := ty_same_tr hs335 m344
                obtain ⟨tN362, bN363, ⟨fsN350, gA351, iA352, iB353, iC354, iD355, iE356, iF357, iG358, iH359, gC360, gP361⟩, ⟨ha364, hb365⟩, hN366⟩ := u349 _ rfl
                try dsimp only at hN366
                refine ax_go 1 (y := (79, [some (.ref o), some (.int l), some (.int mo), some (.int z67)], [.ref o], w341, 0, 0)) rfl trivial ?_
                refine hx_k (l := 81) (m := 41) rfl rfl (by decide) (fun z367 h368 => ?_)
                refine hx_pi (l := 84) (as := [.int z367]) rfl rfl rfl (hp_X9_sign (fz := fz) hF (fun q hq => (by decide +kernel : ∀ q ∈ fb_hr_readPlain, q ∈ fb_hp_X9_sign) q (hfz q hq)) (d + 4)) hw342 hf343 ⟨(hx_ti (G := G) (lo := 0) (hi := 255) (by omega) (by omega)), trivial⟩ trivial (fun w369 z374 hw370 hf371 m372 a375 b376 u377 => ?_)
                rw [u377.1]
                have u378 := u377.2 _ _ rfl rfl
                refine hx_p0 (l := 87) (as := [.ref o, .int z374]) rfl rfl (hx_iv (j := 153) (n := 1) (o := o) (r := []) rfl rfl gA351 rfl) (hp_X9_must (fz := fz) hF (pc := pc) (pp := pp) (fc := fc) (fp := fp) (tk := tN362) (e := e) (bd := bN363) (io := io) (fw := fw) (lw := lw) hok ⟨by omega, by omega⟩ (fun q hq => (by decide +kernel : ∀ q ∈ fb_hr_readPlain, q ∈ fb_hp_X9_must) q (hfz q hq)) (d + 2)) hw342 hf343 ⟨(hx_tr (G := G) (s := 30) (b := 0) hG0 (by decide)), (hx_ti (G := G) (lo := 1) (hi := 355) (by omega) (by omega)), trivial⟩ (fun o1 h1 => by cases h1; exact ⟨_, gA351, iA352, iB353, iC354, iD355, iE356, iF357, iG358, iH359, gC360, gP361⟩) (fun w379 hw380 hf381 m382 u387 => ?_)
                have hs383 := ty_same_tr hs345 m382
                obtain ⟨tN400, bN401, ⟨fsN388, gA389, iA390, iB391, iC392, iD393, iE394, iF395, iG396, iH397, gC398, gP399⟩, ⟨ha402, hb403⟩, hN404⟩ := u387 _ _ rfl _ rfl
                try dsimp only at hN404
                refine ax_go 1 (y := (133, [some (.ref o), some (.int l), some (.int mo), some (.int z67)], [], w379, 0, 0)) rfl trivial ?_
                exact ax_ret rfl rfl trivial ⟨none, _, rfl, hw380, hf381, hs383, trivial, (fun o1 h1 => by cases h1; exact ⟨tN400, bN401, ⟨_, gA389, iA390, iB391, iC392, iD393, iE394, iF395, iG396, iH397, gC398, gP399⟩, ⟨by omega, by omega⟩, by (try dsimp only); exact (fun hb => ⟨(hgq (by have := (hN366 (hN404 hb).1).1; omega)).1, (hgq (by have := (hN366 (hN404 hb).1).1; omega)).2 _ (gp_not0 (by omega) (by rw [hb1, show tN400.toInt.toNat = tN362.toInt.toNat + 1 by have := (hN404 hb).2.2; omega]; exact gp_par (by omega) (by rw [show tq.toInt.toNat + 1 = z325.toInt.toNat by omega]; exact (hN366 (hN404 hb).1).2) (by have := (hN404 hb).2.1; omega)))⟩)⟩)⟩
              · -- 49
                refine ax_go 1 (y := (50, [some (.ref o), some (.int l), some (.int mo), some (.int z67)], [.ref o], w1, 0, 0)) rfl trivial ?_
                refine hx_p0 (l := 53) (as := [.ref o]) rfl rfl (hx_iv (j := 151) (n := 0) (o := o) (r := []) rfl rfl g20 rfl) (hp_X9_faults (fz := fz) hF (pc := pc) (pp := pp) (fc := fc) (fp := fp) (tk := tq) (e := e) (bd := bq) (io := io) (fw := fw) (lw := lw) hok ⟨by omega, by omega⟩ (fun q hq => (by decide +kernel : ∀ q ∈ fb_hr_readPlain, q ∈ fb_hp_X9_faults) q (hfz q hq)) (d + 3)) hw16 hf17 ⟨(hx_tr (G := G) (s := 30) (b := 0) hG0 (by decide)), trivial⟩ (fun o1 h1 => by cases h1; exact ⟨_, g20, e36, e39, e21, e42, e29, e45, e48, e51, g10, g11⟩) (fun w405 hw406 hf407 m408 u413 => ?_)
                have hs409 := ty_same_tr hs18 m408
                obtain ⟨bN426, ⟨fsN414, gA415, iA416, iB417, iC418, iD419, iE420, iF421, iG422, iH423, gC424, gP425⟩, hN427⟩ := u413 _ rfl
                refine ax_go 1 (y := (54, [some (.ref o), some (.int l), some (.int mo), some (.int z67)], [.ref o], w405, 0, 0)) rfl trivial ?_
                refine hx_pi (l := 57) (as := [.ref o]) rfl rfl (hx_iv (j := 150) (n := 0) (o := o) (r := []) rfl rfl gA415 rfl) (hp_X9_fine (fz := fz) hF (fun q hq => (by decide +kernel : ∀ q ∈ fb_hr_readPlain, q ∈ fb_hp_X9_fine) q (hfz q hq)) (d + 4)) hw406 hf407 ⟨(hx_tr (G := G) (s := 30) (b := 0) hG0 (by decide)), trivial⟩ trivial (fun w428 z433 hw429 hf430 m431 a434 b435 u436 => ?_)
                rw [u436.1]
                have u437 := u436.2 _ _ _ rfl ⟨_, gA415, iE420⟩ rfl
                clear u436
                have hz438 : z433.toInt = 0 := by omega
                refine hx_if_ne (l := 60) rfl rfl (fun h439 => by omega) (fun h439 => ?_)
                exact ax_ret rfl rfl trivial ⟨none, _, rfl, hw406, hf407, hs409, trivial, (fun o1 h1 => by cases h1; exact ⟨tq, bN426, ⟨_, gA415, iA416, iB417, iC418, iD419, iE420, iF421, iG422, iH423, gC424, gP425⟩, ⟨by omega, by omega⟩, by (try dsimp only); exact (fun hb => absurd hb (by omega))⟩)⟩
          · -- fine 0
            refine hx_if_ne (l := 23) rfl rfl (fun h440 => by omega) (fun h440 => ?_)
            exact ax_ret rfl rfl trivial ⟨none, _, rfl, hw16, hf17, hs18, trivial, (fun o1 h1 => by cases h1; exact ⟨tq, bq, ⟨_, g20, e36, e39, e21, e42, e29, e45, e48, e51, g10, g11⟩, ⟨by omega, by omega⟩, by (try dsimp only); exact (fun hb => absurd hb (by omega))⟩)⟩
        · -- 6
          refine ax_go 1 (y := (7, [some (.ref o), some (.int l), some (.int mo), (u3.map Value.int)], [.ref o], w1, 0, 0)) rfl trivial ?_
          refine hx_k (l := 9) (m := 8) rfl rfl (by decide) (fun z441 h442 => ?_)
          refine hx_pi (l := 12) (as := [.ref o, .int z441]) rfl rfl (hx_iv (j := 152) (n := 1) (o := o) (r := []) rfl rfl g20 rfl) (hp_X9_takes0 (fz := fz) hF (pc := pc) (pp := pp) (fc := fc) (fp := fp) (tk := tq) (e := e) (bd := bq) (io := io) (fw := fw) (lw := lw) hok ⟨by omega, by omega⟩ (fun q hq => (by decide +kernel : ∀ q ∈ fb_hr_readPlain, q ∈ fb_hp_X9_takes0) q (hfz q hq)) (d + 3)) hw16 hf17 ⟨(hx_tr (G := G) (s := 30) (b := 0) hG0 (by decide)), (hx_ti (G := G) (lo := 1) (hi := 355) (by omega) (by omega)), trivial⟩ (fun o1 h1 => by cases h1; exact ⟨_, g20, e36, e39, e21, e42, e29, e45, e48, e51, g10, g11⟩) (fun w443 z448 hw444 hf445 m446 a449 b450 u451 => ?_)
          have hs447 := ty_same_tr hs18 m446
          rcases u451 _ _ _ rfl rfl with ⟨hz464, hb465, hg466, tN467, ⟨fsN452, gA453, iA454, iB455, iC456, iD457, iE458, iF459, iG460, iH461, gC462, gP463⟩, ht468, hu469⟩ | ⟨hz464, hg466, ⟨fsN452, gA453, iA454, iB455, iC456, iD457, iE458, iF459, iG460, iH461, gC462, gP463⟩⟩
          · -- taken 1
            refine ax_go 2 (y := (2, [some (.ref o), some (.int l), some (.int z448), (u3.map Value.int)], [], w443, 0, 0)) rfl trivial ?_
            exact ih2 w443 z448 u3 tN467 bq hw444 hf445 hs447 ⟨_, gA453, iC456⟩ ⟨_, gA453, iE458⟩ ⟨_, gA453, iA454⟩ ⟨_, gA453, iB455⟩ ⟨_, gA453, iD457⟩ ⟨_, gA453, iF459⟩ ⟨_, gA453, iG460⟩ ⟨_, gA453, iH461⟩ gC462 gP463 (by omega) (by omega) (by omega) (by omega) (fun hb => ⟨(hgq hb).1, fun q hq => (hgq hb).2 q (gp_not (by omega) (by rw [show tq.toInt.toNat + 1 = tN467.toInt.toNat by omega]; exact hq))⟩) (fun hm => by omega) (by omega)
          · -- taken 0
            refine ax_go 2 (y := (2, [some (.ref o), some (.int l), some (.int z448), (u3.map Value.int)], [], w443, 0, 0)) rfl trivial ?_
            exact ih2 w443 z448 u3 tq bq hw444 hf445 hs447 ⟨_, gA453, iC456⟩ ⟨_, gA453, iE458⟩ ⟨_, gA453, iA454⟩ ⟨_, gA453, iB455⟩ ⟨_, gA453, iD457⟩ ⟨_, gA453, iF459⟩ ⟨_, gA453, iG460⟩ ⟨_, gA453, iH461⟩ gC462 gP463 (by omega) (by omega) (by omega) (by omega) hgq (fun hm => by omega) (by omega)
    change ab_wp ro (ab_Ev ro ab_codes (d + 5)) 9 false none ab_k_X9_readPlain (fun o_1 => ∃ v w1, o_1 = (v, w1, 0, 0) ∧ ty_w sp_ G w1 ∧ (F9 G F) w1 ∧ ty_same G fz w w1 ∧ ck_res G none v ∧ (paR pc pp fc fp tk e bd io fw lw (fun t => GP (cd fc) e.toInt.toNat (decide (io.toInt ≠ 0)) b 6 tk.toInt.toNat t.toInt.toNat)) ([.ref o, .int l] : List Value) w v w1) (0, [some (.ref o), some (.int l), none, none], [], w, 0, 0)
    refine hx_k (l := 1) (m := 1) rfl rfl (by decide) (fun z470 h471 => ?_)
    refine ax_go 1 (y := (2, [some (.ref o), some (.int l), some (.int z470), none], [], w, 0, 0)) rfl trivial ?_
    exact ct2 _ w z470 none tk bd hw hf (ty_same_rf w) ⟨_, g0, i19⟩ ⟨_, g0, i21⟩ ⟨_, g0, i15⟩ ⟨_, g0, i17⟩ ⟨_, g0, i18⟩ ⟨_, g0, i10⟩ ⟨_, g0, i8⟩ ⟨_, g0, i9⟩ gc0 gp0 (by omega) (by omega) (by omega) (by omega) (fun hb => ⟨hb, fun q hq => hq⟩) (fun hm => by omega) (Nat.lt_succ_self _)
