/-! walks by program: texts are read, laid -/
def fb_hp_X9_reads : List (Nat × Nat) := [(8, 3), (8, 5), (19, 999), (32, 999), (33, 999), (34, 999), (35, 999), (44, 999), (45, 999), (1, 0), (18, 999), (2, 11), (2, 14), (1, 15), (54, 11), (4, 2), (7, 9), (30, 34), (30, 2), (30, 22), (30, 23), (30, 24), (30, 25), (46, 999), (47, 999), (30, 35), (30, 36), (7, 0), (24, 999), (37, 999), (30, 4), (30, 5), (30, 6), (30, 8), (30, 9), (30, 10), (30, 11), (30, 15), (30, 16), (30, 17), (30, 30), (30, 42), (30, 43), (30, 44), (1, 1), (1, 3), (1, 10), (1, 13), (8, 0), (30, 49), (2, 15), (8, 1)]
set_option maxHeartbeats 8000000 in
theorem hp_X9_reads {ro : ab_R} {G : Nat → Nat} {fz : List (Nat × Nat)} {F : ab_W → Prop} (hF : ∀ w w', smt G w w' → F w → F w') {io fw lw : Int32} (hio : (io.toInt = 0 → fw.toInt = 9 ∧ lw.toInt = 16) ∧ (io.toInt ≠ 0 → fw.toInt = 14 ∧ lw.toInt = 20)) (hfz : ∀ q ∈ fz, q ∈ fb_hp_X9_reads) (d : Nat) : hx_ct ro sp_ G (F9 G F) fz (ab_Ev ro ab_codes (d + 72)) 166 [(2, 30, 0)] (some (0, 0, 1)) (fun as w => ∀ o : Nat, as = [.ref o] → hx_has w o 9 10 (.int io) ∧ hx_has w o 9 8 (.int fw) ∧ hx_has w o 9 9 (.int lw)) (fun as _ v w1 => ∀ (o : Nat) (z : Int32), as = [.ref o] → v = some (.int z) → z.toInt ≠ 0 → rd_ok (decide (io.toInt ≠ 0)) o w1) := by
  have hFF := F9_same hF
  refine hx_hand (d := d + 71) (by decide) (fun as w hw hf has hP => ?_)
  match as, has with
  | [v0], ⟨h0, _⟩ =>
    obtain ⟨o, rfl, _, hG0⟩ := ty_refn h0 rfl rfl
    replace hG0 : G o = 30 := hG0
    refine ⟨rfl, ?_⟩
    obtain ⟨⟨fs0, g0, i10⟩, ⟨fs1, g1, i8⟩, ⟨fs2, g2, i9⟩⟩ := hP o rfl
    obtain rfl := hx_inj g0 g1
    obtain rfl := hx_inj g0 g2
    have ct34 : ∀ (nq : Nat) (w1 : ab_W) (nn : Int32) (tq : Int32) (bq : Int32) (e : Int32) (fc : Nat → Int32) (fp : Nat → Int32) (pc : Nat) (pp : Nat), ty_w sp_ G w1 → (F9 G F) w1 → ty_same G fz w w1 → (hx_has w1 o 9 19 (.int tq)) → (hx_has w1 o 9 21 (.int bq)) → (hx_has w1 o 9 15 (.ref pc)) → (hx_has w1 o 9 17 (.ref pp)) → (hx_has w1 o 9 18 (.int e)) → (hx_has w1 o 9 10 (.int io)) → (hx_has w1 o 9 8 (.int fw)) → (hx_has w1 o 9 9 (.int lw)) → (w1[pc]? = some (.inl (0, 401, .inl fc))) → (w1[pp]? = some (.inl (0, 401, .inl fp))) → (G pc = 39) → (G pp = 41) → (pa_ok fc fp e io fw lw) → (0 ≤ tq.toInt) → (tq.toInt ≤ e.toInt) → (e.toInt ≤ 400) → (1 ≤ nn.toInt) → (nn.toInt ≤ tq.toInt + 1) → (bq.toInt = -1 → GW (decide (io.toInt ≠ 0)) (cd fc) e.toInt.toNat (tq.toInt.toNat + 1) → GW (decide (io.toInt ≠ 0)) (cd fc) e.toInt.toNat 0) → (401 - tq.toInt).toNat < nq → ab_wp ro (ab_Ev ro ab_codes (d + 71)) 9 false (some .boolean) ab_k_X9_reads (fun o_1 => ∃ v w1, o_1 = (v, w1, 0, 0) ∧ ty_w sp_ G w1 ∧ (F9 G F) w1 ∧ ty_same G fz w w1 ∧ ck_res G (some (0, 0, 1)) v ∧ (fun as _ v w1 => ∀ (o : Nat) (z : Int32), as = [.ref o] → v = some (.int z) → z.toInt ≠ 0 → rd_ok (decide (io.toInt ≠ 0)) o w1) ([.ref o] : List Value) w v w1) (34, [some (.ref o), some (.int nn)], [], w1, 0, 0) := by
      intro nq
      induction nq with
      | zero => intro w1 nn tq bq e fc fp pc pp hw17 hf18 hs19 hh2 hh3 hh4 hh5 hh6 hh7 hh8 hh9 g10 g11 hG_pc hG_pp hok i12 i13 i14 i15 i16 hgw hm; exact absurd hm (Nat.not_lt_zero _)
      | succ nq ih34 =>
        intro w1 nn tq bq e fc fp pc pp hw17 hf18 hs19 hh2 hh3 hh4 hh5 hh6 hh7 hh8 hh9 g10 g11 hG_pc hG_pp hok i12 i13 i14 i15 i16 hgw hm34
        obtain ⟨fs20, g21, e22⟩ := hh2
        have q23 := hx_oq hw17 g21 hG0 (s := 30) rfl
        obtain ⟨x24, e25, a26, b27⟩ := hx_fi (k := 19) (lo := 0) (hi := 400) q23 rfl
        obtain rfl : tq = x24 := hx_inji e22 e25
        obtain ⟨fs28, g29, e30⟩ := hh3
        obtain rfl : fs20 = fs28 := hx_inj g21 g29
        obtain ⟨x31, e32, a33, b34⟩ := hx_fi (k := 21) (lo := (-2147483648)) (hi := 2147483647) q23 rfl
        obtain rfl : bq = x31 := hx_inji e30 e32
        obtain ⟨fs35, g36, e37⟩ := hh4
        obtain rfl : fs20 = fs35 := hx_inj g21 g36
        obtain ⟨fs38, g39, e40⟩ := hh5
        obtain rfl : fs20 = fs38 := hx_inj g21 g39
        obtain ⟨fs41, g42, e43⟩ := hh6
        obtain rfl : fs20 = fs41 := hx_inj g21 g42
        obtain ⟨x44, e45, a46, b47⟩ := hx_fi (k := 18) (lo := 0) (hi := 400) q23 rfl
        obtain rfl : e = x44 := hx_inji e43 e45
        obtain ⟨fs48, g49, e50⟩ := hh7
        obtain rfl : fs20 = fs48 := hx_inj g21 g49
        obtain ⟨fs51, g52, e53⟩ := hh8
        obtain rfl : fs20 = fs51 := hx_inj g21 g52
        obtain ⟨fs54, g55, e56⟩ := hh9
        obtain rfl : fs20 = fs54 := hx_inj g21 g55
        refine ax_go 1 (y := (35, [some (.ref o), some (.int nn)], [.ref o], w1, 0, 0)) rfl trivial ?_
        refine hx_k (l := 37) (m := 59) rfl rfl (by decide) (fun z57 h58 => ?_)
        refine hx_pi (l := 40) (as := [.int z57]) rfl rfl rfl (hp_X9_sign (fz := fz) hF (fun q hq => (by decide +kernel : ∀ q ∈ fb_hp_X9_reads, q ∈ fb_hp_X9_sign) q (hfz q hq)) (d + 70)) hw17 hf18 ⟨(hx_ti (G := G) (lo := 0) (hi := 255) (by omega) (by omega)), trivial⟩ trivial (fun w59 z64 hw60 hf61 m62 a65 b66 u67 => ?_)
        rw [u67.1]
        have u68 := u67.2 _ _ rfl rfl
        refine hx_pi (l := 43) (as := [.ref o, .int z64]) rfl rfl (hx_iv (j := 152) (n := 1) (o := o) (r := []) rfl rfl g21 rfl) (hp_X9_takes0 (fz := fz) hF (pc := pc) (pp := pp) (fc := fc) (fp := fp) (tk := tq) (e := e) (bd := bq) (io := io) (fw := fw) (lw := lw) hok ⟨by omega, by omega⟩ (fun q hq => (by decide +kernel : ∀ q ∈ fb_hp_X9_reads, q ∈ fb_hp_X9_takes0) q (hfz q hq)) (d + 69)) hw17 hf18 ⟨(hx_tr (G := G) (s := 30) (b := 0) hG0 (by decide)), (hx_ti (G := G) (lo := 1) (hi := 355) (by omega) (by omega)), trivial⟩ (fun o1 h1 => by cases h1; exact ⟨_, g21, e37, e40, e22, e43, e30, e50, e53, e56, g10, g11⟩) (fun w69 z74 hw70 hf71 m72 a75 b76 u77 => ?_)
        have hs73 := ty_same_tr hs19 m72
        rcases u77 _ _ _ rfl rfl with ⟨hz90, hb91, hg92, tN93, ⟨fsN78, gA79, iA80, iB81, iC82, iD83, iE84, iF85, iG86, iH87, gC88, gP89⟩, ht94, hu95⟩ | ⟨hz90, hg92, ⟨fsN78, gA79, iA80, iB81, iC82, iD83, iE84, iF85, iG86, iH87, gC88, gP89⟩⟩
        · -- taken 1
          refine hx_if_eq (l := 46) rfl rfl (fun h96 => by omega) (fun h96 => ?_)
          refine ax_go 1 (y := (47, [some (.ref o), some (.int nn)], [.int nn], w69, 0, 0)) rfl trivial ?_
          refine hx_k (l := 49) (m := 12) rfl rfl (by decide) (fun z97 h98 => ?_)
          refine hx_ic_ne (l := 52) rfl rfl (fun h99 => ?_) (fun h99 => ?_)
          · -- 56
            refine ax_go 1 (y := (57, [some (.ref o), some (.int nn)], [.ref o], w69, 0, 0)) rfl trivial ?_
            refine hx_pi (l := 60) (as := [.ref o]) rfl rfl (hx_iv (j := 150) (n := 0) (o := o) (r := []) rfl rfl gA79 rfl) (hp_X9_fine (fz := fz) hF (fun q hq => (by decide +kernel : ∀ q ∈ fb_hp_X9_reads, q ∈ fb_hp_X9_fine) q (hfz q hq)) (d + 70)) hw70 hf71 ⟨(hx_tr (G := G) (s := 30) (b := 0) hG0 (by decide)), trivial⟩ trivial (fun w100 z105 hw101 hf102 m103 a106 b107 u108 => ?_)
            rw [u108.1]
            have u109 := u108.2 _ _ _ rfl ⟨_, gA79, iE84⟩ rfl
            clear u108
            have hz110 : z105.toInt = 1 := by omega
            refine hx_if_eq (l := 63) rfl rfl (fun h111 => by omega) (fun h111 => ?_)
            refine ax_go 1 (y := (64, [some (.ref o), some (.int nn)], [.ref o], w69, 0, 0)) rfl trivial ?_
            refine hx_p0 (l := 67) (as := [.ref o]) rfl rfl (hx_iv (j := 159) (n := 0) (o := o) (r := []) rfl rfl gA79 rfl) (hp_X9_readOne (fz := fz) hF (pc := pc) (pp := pp) (fc := fc) (fp := fp) (tk := tN93) (e := e) (bd := bq) (io := io) (fw := fw) (lw := lw) hok ⟨by omega, by omega⟩ (fun q hq => (by decide +kernel : ∀ q ∈ fb_hp_X9_reads, q ∈ fb_hp_X9_readOne) q (hfz q hq)) (d + 0)) hw70 hf71 ⟨(hx_tr (G := G) (s := 30) (b := 0) hG0 (by decide)), trivial⟩ (fun o1 h1 => by cases h1; exact ⟨_, gA79, iA80, iB81, iC82, iD83, iE84, iF85, iG86, iH87, gC88, gP89⟩) (fun w112 hw113 hf114 m115 u120 => ?_)
            have hs116 := ty_same_tr hs73 m115
            obtain ⟨tN133, bN134, ⟨fsN121, gA122, iA123, iB124, iC125, iD126, iE127, iF128, iG129, iH130, gC131, gP132⟩, ⟨ha135, hb136⟩, hN137⟩ := u120 _ rfl
            try dsimp only at hN137
            refine hx_iinc (x := nn) (n := 1) (l := 70) rfl rfl rfl (Nat.le_of_ble_eq_true rfl) (by omega) (by omega) (by decide) (fun z138 h139 => ?_)
            change ab_wp ro (ab_Ev ro ab_codes (d + 71)) 9 false (some .boolean) ab_k_X9_reads (fun o_1 => ∃ v w1, o_1 = (v, w1, 0, 0) ∧ ty_w sp_ G w1 ∧ (F9 G F) w1 ∧ ty_same G fz w w1 ∧ ck_res G (some (0, 0, 1)) v ∧ (fun as _ v w1 => ∀ (o : Nat) (z : Int32), as = [.ref o] → v = some (.int z) → z.toInt ≠ 0 → rd_ok (decide (io.toInt ≠ 0)) o w1) ([.ref o] : List Value) w v w1) (70, [some (.ref o), some (.int z138)], [], w112, 0, 0)
            refine ax_go 1 (y := (34, [some (.ref o), some (.int z138)], [], w112, 0, 0)) rfl trivial ?_
            exact ih34 w112 z138 tN133 bN134 e fc fp pc pp hw113 hf114 hs116 ⟨_, gA122, iC125⟩ ⟨_, gA122, iE127⟩ ⟨_, gA122, iA123⟩ ⟨_, gA122, iB124⟩ ⟨_, gA122, iD126⟩ ⟨_, gA122, iF128⟩ ⟨_, gA122, iG129⟩ ⟨_, gA122, iH130⟩ gC131 gP132 hG_pc hG_pp hok (by omega) (by omega) (by omega) (by omega) (by omega) (fun hb hw0 => hgw (hN137 hb).1 (by rw [show tq.toInt.toNat + 1 = tN93.toInt.toNat by omega]; exact gw_cons (hN137 hb).2 hw0)) (by omega)
          · -- 52
            refine ax_go 1 (y := (53, [some (.ref o), some (.int nn)], [.ref o], w69, 0, 0)) rfl trivial ?_
            refine hx_p0 (l := 56) (as := [.ref o]) rfl rfl (hx_iv (j := 151) (n := 0) (o := o) (r := []) rfl rfl gA79 rfl) (hp_X9_faults (fz := fz) hF (pc := pc) (pp := pp) (fc := fc) (fp := fp) (tk := tN93) (e := e) (bd := bq) (io := io) (fw := fw) (lw := lw) hok ⟨by omega, by omega⟩ (fun q hq => (by decide +kernel : ∀ q ∈ fb_hp_X9_reads, q ∈ fb_hp_X9_faults) q (hfz q hq)) (d + 69)) hw70 hf71 ⟨(hx_tr (G := G) (s := 30) (b := 0) hG0 (by decide)), trivial⟩ (fun o1 h1 => by cases h1; exact ⟨_, gA79, iA80, iB81, iC82, iD83, iE84, iF85, iG86, iH87, gC88, gP89⟩) (fun w140 hw141 hf142 m143 u148 => ?_)
            have hs144 := ty_same_tr hs73 m143
            obtain ⟨bN161, ⟨fsN149, gA150, iA151, iB152, iC153, iD154, iE155, iF156, iG157, iH158, gC159, gP160⟩, hN162⟩ := u148 _ rfl
            refine ax_go 1 (y := (57, [some (.ref o), some (.int nn)], [.ref o], w140, 0, 0)) rfl trivial ?_
            refine hx_pi (l := 60) (as := [.ref o]) rfl rfl (hx_iv (j := 150) (n := 0) (o := o) (r := []) rfl rfl gA150 rfl) (hp_X9_fine (fz := fz) hF (fun q hq => (by decide +kernel : ∀ q ∈ fb_hp_X9_reads, q ∈ fb_hp_X9_fine) q (hfz q hq)) (d + 70)) hw141 hf142 ⟨(hx_tr (G := G) (s := 30) (b := 0) hG0 (by decide)), trivial⟩ trivial (fun w163 z168 hw164 hf165 m166 a169 b170 u171 => ?_)
            rw [u171.1]
            have u172 := u171.2 _ _ _ rfl ⟨_, gA150, iE155⟩ rfl
            clear u171
            have hz173 : z168.toInt = 0 := by omega
            refine hx_if_eq (l := 63) rfl rfl (fun h174 => ?_) (fun h174 => by omega)
            refine hx_iinc (x := nn) (n := 1) (l := 70) rfl rfl rfl (Nat.le_of_ble_eq_true rfl) (by omega) (by omega) (by decide) (fun z175 h176 => ?_)
            change ab_wp ro (ab_Ev ro ab_codes (d + 71)) 9 false (some .boolean) ab_k_X9_reads (fun o_1 => ∃ v w1, o_1 = (v, w1, 0, 0) ∧ ty_w sp_ G w1 ∧ (F9 G F) w1 ∧ ty_same G fz w w1 ∧ ck_res G (some (0, 0, 1)) v ∧ (fun as _ v w1 => ∀ (o : Nat) (z : Int32), as = [.ref o] → v = some (.int z) → z.toInt ≠ 0 → rd_ok (decide (io.toInt ≠ 0)) o w1) ([.ref o] : List Value) w v w1) (70, [some (.ref o), some (.int z175)], [], w140, 0, 0)
            refine ax_go 1 (y := (34, [some (.ref o), some (.int z175)], [], w140, 0, 0)) rfl trivial ?_
            exact ih34 w140 z175 tN93 bN161 e fc fp pc pp hw141 hf142 hs144 ⟨_, gA150, iC153⟩ ⟨_, gA150, iE155⟩ ⟨_, gA150, iA151⟩ ⟨_, gA150, iB152⟩ ⟨_, gA150, iD154⟩ ⟨_, gA150, iF156⟩ ⟨_, gA150, iG157⟩ ⟨_, gA150, iH158⟩ gC159 gP160 hG_pc hG_pp hok (by omega) (by omega) (by omega) (by omega) (by omega) (fun hb hw0 => absurd hb (by omega)) (by omega)
        · -- taken 0
          refine hx_if_eq (l := 46) rfl rfl (fun h177 => ?_) (fun h177 => by omega)
          refine ax_go 1 (y := (74, [some (.ref o), some (.int nn)], [.ref o], w69, 0, 0)) rfl trivial ?_
          refine hx_pi (l := 77) (as := [.ref o]) rfl rfl (hx_iv (j := 150) (n := 0) (o := o) (r := []) rfl rfl gA79 rfl) (hp_X9_fine (fz := fz) hF (fun q hq => (by decide +kernel : ∀ q ∈ fb_hp_X9_reads, q ∈ fb_hp_X9_fine) q (hfz q hq)) (d + 70)) hw70 hf71 ⟨(hx_tr (G := G) (s := 30) (b := 0) hG0 (by decide)), trivial⟩ trivial (fun w178 z183 hw179 hf180 m181 a184 b185 u186 => ?_)
          rw [u186.1]
          have u187 := u186.2 _ _ _ rfl ⟨_, gA79, iE84⟩ rfl
          clear u186
          rcases u187 with ⟨hz188, hb189⟩ | ⟨hz188, hb189⟩
          · -- fine 1
            refine hx_if_eq (l := 80) rfl rfl (fun h190 => by omega) (fun h190 => ?_)
            refine ax_go 1 (y := (81, [some (.ref o), some (.int nn)], [.ref o], w69, 0, 0)) rfl trivial ?_
            refine hx_gf (l := 84) rfl rfl rfl gA79 iC82 ?_
            refine ax_go 1 (y := (85, [some (.ref o), some (.int nn)], [.ref o, .int tq], w69, 0, 0)) rfl trivial ?_
            refine hx_gf (l := 88) rfl rfl rfl gA79 iD83 ?_
            refine hx_ic_ge (l := 91) rfl rfl (fun h191 => ?_) (fun h191 => ?_)
            · -- 95
              refine ax_go 2 (y := (97, [some (.ref o), some (.int nn)], [.ref o, .ref o], w69, 0, 0)) rfl trivial ?_
              refine hx_gf (l := 100) rfl rfl rfl gA79 iE84 ?_
              refine hx_pf (q := (0, 0, 0, 0, (-2147483648), 2147483647)) (s := 30) (l := 103) (v := .int bq) rfl rfl rfl (by decide) rfl rfl rfl hw70 hG0 gA79 trivial (ck_top_ok (G := G) bq) (fun w192 fs193 g194 e195 o196 n197 hw198 n199 => ?_)
              have hs200 := ty_same_tr hs73 (n199 fz (hx_ok hfz (by decide)))
              have hf201 := hFF _ _ (n199 pr_ (by decide)) hf71
              refine ax_go 1 (y := (104, [some (.ref o), some (.int nn)], [.ref o], w192, 0, 0)) rfl trivial ?_
              refine hx_pi (l := 107) (as := [.ref o]) rfl rfl (hx_iv (j := 150) (n := 0) (o := o) (r := []) rfl rfl g194 rfl) (hp_X9_fine (fz := fz) hF (fun q hq => (by decide +kernel : ∀ q ∈ fb_hp_X9_reads, q ∈ fb_hp_X9_fine) q (hfz q hq)) (d + 70)) hw198 hf201 ⟨(hx_tr (G := G) (s := 30) (b := 0) hG0 (by decide)), trivial⟩ trivial (fun w202 z207 hw203 hf204 m205 a208 b209 u210 => ?_)
              rw [u210.1]
              have u211 := u210.2 _ _ _ rfl ⟨_, g194, ((o196 21 (by decide)).trans iE84)⟩ rfl
              clear u210
              have hz212 : z207.toInt = 1 := by omega
              exact ax_ret rfl rfl ⟨hx_01 (by omega) (by omega), trivial⟩ ⟨some (.int z207), _, rfl, hw198, hf201, hs200, (hx_ti (G := G) (lo := 0) (hi := 1) (by omega) (by omega)), (fun o1 z1 h1 h2 hz => by cases h1; cases h2; exact ⟨pc, fc, e, ⟨_, g194, ((o196 15 (by decide)).trans iA80)⟩, ⟨_, g194, ((o196 18 (by decide)).trans iD83)⟩, ((n197 _ (hx_ne hG_pc hG0 (by decide))).trans gC88), ⟨hok.1.1, hok.1.2⟩, hgw (by omega) (gw_end (by omega))⟩)⟩
            · -- 91
              refine ax_go 1 (y := (92, [some (.ref o), some (.int nn)], [.ref o], w69, 0, 0)) rfl trivial ?_
              refine hx_p0 (l := 95) (as := [.ref o]) rfl rfl (hx_iv (j := 151) (n := 0) (o := o) (r := []) rfl rfl gA79 rfl) (hp_X9_faults (fz := fz) hF (pc := pc) (pp := pp) (fc := fc) (fp := fp) (tk := tq) (e := e) (bd := bq) (io := io) (fw := fw) (lw := lw) hok ⟨by omega, by omega⟩ (fun q hq => (by decide +kernel : ∀ q ∈ fb_hp_X9_reads, q ∈ fb_hp_X9_faults) q (hfz q hq)) (d + 69)) hw70 hf71 ⟨(hx_tr (G := G) (s := 30) (b := 0) hG0 (by decide)), trivial⟩ (fun o1 h1 => by cases h1; exact ⟨_, gA79, iA80, iB81, iC82, iD83, iE84, iF85, iG86, iH87, gC88, gP89⟩) (fun w213 hw214 hf215 m216 u221 => ?_)
              have hs217 := ty_same_tr hs73 m216
              obtain ⟨bN234, ⟨fsN222, gA223, iA224, iB225, iC226, iD227, iE228, iF229, iG230, iH231, gC232, gP233⟩, hN235⟩ := u221 _ rfl
              refine ax_go 2 (y := (97, [some (.ref o), some (.int nn)], [.ref o, .ref o], w213, 0, 0)) rfl trivial ?_
              refine hx_gf (l := 100) rfl rfl rfl gA223 iE228 ?_
              refine hx_pf (q := (0, 0, 0, 0, (-2147483648), 2147483647)) (s := 30) (l := 103) (v := .int bN234) rfl rfl rfl (by decide) rfl rfl rfl hw214 hG0 gA223 trivial (ck_top_ok (G := G) bN234) (fun w236 fs237 g238 e239 o240 n241 hw242 n243 => ?_)
              have hs244 := ty_same_tr hs217 (n243 fz (hx_ok hfz (by decide)))
              have hf245 := hFF _ _ (n243 pr_ (by decide)) hf215
              refine ax_go 1 (y := (104, [some (.ref o), some (.int nn)], [.ref o], w236, 0, 0)) rfl trivial ?_
              refine hx_pi (l := 107) (as := [.ref o]) rfl rfl (hx_iv (j := 150) (n := 0) (o := o) (r := []) rfl rfl g238 rfl) (hp_X9_fine (fz := fz) hF (fun q hq => (by decide +kernel : ∀ q ∈ fb_hp_X9_reads, q ∈ fb_hp_X9_fine) q (hfz q hq)) (d + 70)) hw242 hf245 ⟨(hx_tr (G := G) (s := 30) (b := 0) hG0 (by decide)), trivial⟩ trivial (fun w246 z251 hw247 hf248 m249 a252 b253 u254 => ?_)
              rw [u254.1]
              have u255 := u254.2 _ _ _ rfl ⟨_, g238, ((o240 21 (by decide)).trans iE228)⟩ rfl
              clear u254
              have hz256 : z251.toInt = 0 := by omega
              exact ax_ret rfl rfl ⟨hx_01 (by omega) (by omega), trivial⟩ ⟨some (.int z251), _, rfl, hw242, hf245, hs244, (hx_ti (G := G) (lo := 0) (hi := 1) (by omega) (by omega)), (fun o1 z1 h1 h2 hz => by cases h1; cases h2; exact absurd hz (by omega))⟩
          · -- fine 0
            refine hx_if_eq (l := 80) rfl rfl (fun h257 => ?_) (fun h257 => by omega)
            refine ax_go 2 (y := (97, [some (.ref o), some (.int nn)], [.ref o, .ref o], w69, 0, 0)) rfl trivial ?_
            refine hx_gf (l := 100) rfl rfl rfl gA79 iE84 ?_
            refine hx_pf (q := (0, 0, 0, 0, (-2147483648), 2147483647)) (s := 30) (l := 103) (v := .int bq) rfl rfl rfl (by decide) rfl rfl rfl hw70 hG0 gA79 trivial (ck_top_ok (G := G) bq) (fun w258 fs259 g260 e261 o262 n263 hw264 n265 => ?_)
            have hs266 := ty_same_tr hs73 (n265 fz (hx_ok hfz (by decide)))
            have hf267 := hFF _ _ (n265 pr_ (by decide)) hf71
            refine ax_go 1 (y := (104, [some (.ref o), some (.int nn)], [.ref o], w258, 0, 0)) rfl trivial ?_
            refine hx_pi (l := 107) (as := [.ref o]) rfl rfl (hx_iv (j := 150) (n := 0) (o := o) (r := []) rfl rfl g260 rfl) (hp_X9_fine (fz := fz) hF (fun q hq => (by decide +kernel : ∀ q ∈ fb_hp_X9_reads, q ∈ fb_hp_X9_fine) q (hfz q hq)) (d + 70)) hw264 hf267 ⟨(hx_tr (G := G) (s := 30) (b := 0) hG0 (by decide)), trivial⟩ trivial (fun w268 z273 hw269 hf270 m271 a274 b275 u276 => ?_)
            rw [u276.1]
            have u277 := u276.2 _ _ _ rfl ⟨_, g260, ((o262 21 (by decide)).trans iE84)⟩ rfl
            clear u276
            have hz278 : z273.toInt = 0 := by omega
            exact ax_ret rfl rfl ⟨hx_01 (by omega) (by omega), trivial⟩ ⟨some (.int z273), _, rfl, hw264, hf267, hs266, (hx_ti (G := G) (lo := 0) (hi := 1) (by omega) (by omega)), (fun o1 z1 h1 h2 hz => by cases h1; cases h2; exact absurd hz (by omega))⟩
    change ab_wp ro (ab_Ev ro ab_codes (d + 71)) 9 false (some .boolean) ab_k_X9_reads (fun o_1 => ∃ v w1, o_1 = (v, w1, 0, 0) ∧ ty_w sp_ G w1 ∧ (F9 G F) w1 ∧ ty_same G fz w w1 ∧ ck_res G (some (0, 0, 1)) v ∧ (fun as _ v w1 => ∀ (o : Nat) (z : Int32), as = [.ref o] → v = some (.int z) → z.toInt ≠ 0 → rd_ok (decide (io.toInt ≠ 0)) o w1) ([.ref o] : List Value) w v w1) (0, [some (.ref o), none], [], w, 0, 0)
    refine ax_go 2 (y := (2, [some (.ref o), none], [.ref o, .ref o], w, 0, 0)) rfl trivial ?_
    have q279 := hx_oq hw g0 hG0 (s := 30) rfl
    obtain ⟨x280, e281, a282, b283⟩ := hx_fi (k := 13) (lo := 0) (hi := 400) q279 rfl
    refine hx_gf (l := 5) rfl rfl rfl g0 e281 ?_
    refine hx_p0 (l := 8) (as := [.ref o, .int x280]) rfl rfl (hx_iv (j := 149) (n := 1) (o := o) (r := []) rfl rfl g0 rfl) (hp_X9_splits (fz := ([(30, 10), (30, 8), (30, 9)] ++ fz)) hF (hx_app (by decide +kernel) (fun q hq => (by decide +kernel : ∀ q ∈ fb_hp_X9_reads, q ∈ fb_hp_X9_splits) q (hfz q hq))) (d + 69)) hw hf ⟨(hx_tr (G := G) (s := 30) (b := 0) hG0 (by decide)), (hx_ti (G := G) (lo := 0) (hi := 400) (by omega) (by omega)), trivial⟩ trivial (fun w284 hw285 hf286 m287 u292 => ?_)
    have hs288 := ty_same_tr (ty_same_rf w) (hx_sapp m287)
    obtain ⟨fs293, g294, -, q295⟩ := hx_obj hw285 hG0 (s := 30) rfl (by decide)
    obtain ⟨pc, pp, fc, fp, e, ⟨fsA296, gA297, iA298⟩, ⟨fsB299, gB300, iB301⟩, ⟨fsC302, gC303, iC304⟩, gc305, gp306, ⟨ha307, hb308⟩, hz309, hpl310⟩ := u292 _ rfl
    obtain rfl := hx_inj g294 gA297
    obtain rfl := hx_inj g294 gB300
    obtain rfl := hx_inj g294 gC303
    have hG_pc := pa_r15 hw285 g294 hG0 iA298
    have hG_pp := pa_r17 hw285 g294 hG0 iB301
    have hok : pa_ok fc fp e io fw lw := ⟨⟨ha307, hb308⟩, hz309, hpl310, hio.1, hio.2⟩
    refine ax_go 1 (y := (9, [some (.ref o), none], [.ref o], w284, 0, 0)) rfl trivial ?_
    refine hx_k (l := 10) (m := 0) rfl rfl (by decide) (fun z311 h312 => ?_)
    refine hx_pf (q := (0, 0, 0, 0, 0, 400)) (s := 30) (l := 13) (v := .int z311) rfl rfl rfl (by decide) rfl rfl rfl hw285 hG0 g294 trivial (hx_ti (G := G) (lo := 0) (hi := 400) (by omega) (by omega)) (fun w313 fs314 g315 e316 o317 n318 hw319 n320 => ?_)
    have hs321 := ty_same_tr hs288 (n320 fz (hx_ok hfz (by decide)))
    have hf322 := hFF _ _ (n320 pr_ (by decide)) hf286
    refine ax_go 1 (y := (14, [some (.ref o), none], [.ref o], w313, 0, 0)) rfl trivial ?_
    refine hx_k (l := 15) (m := 0) rfl rfl (by decide) (fun z323 h324 => ?_)
    refine hx_pf (q := (0, 0, 0, 0, 0, 400)) (s := 30) (l := 18) (v := .int z323) rfl rfl rfl (by decide) rfl rfl rfl hw319 hG0 g315 trivial (hx_ti (G := G) (lo := 0) (hi := 400) (by omega) (by omega)) (fun w325 fs326 g327 e328 o329 n330 hw331 n332 => ?_)
    have hs333 := ty_same_tr hs321 (n332 fz (hx_ok hfz (by decide)))
    have hf334 := hFF _ _ (n332 pr_ (by decide)) hf322
    refine ax_go 1 (y := (19, [some (.ref o), none], [.ref o], w325, 0, 0)) rfl trivial ?_
    refine hx_k (l := 20) (m := 0) rfl rfl (by decide) (fun z335 h336 => ?_)
    refine hx_pf (q := (0, 0, 0, 0, (-2147483648), 2147483647)) (s := 30) (l := 23) (v := .int z335) rfl rfl rfl (by decide) rfl rfl rfl hw331 hG0 g327 trivial (ck_top_ok (G := G) z335) (fun w337 fs338 g339 e340 o341 n342 hw343 n344 => ?_)
    have hs345 := ty_same_tr hs333 (n344 fz (hx_ok hfz (by decide)))
    have hf346 := hFF _ _ (n344 pr_ (by decide)) hf334
    refine ax_go 1 (y := (24, [some (.ref o), none], [.ref o], w337, 0, 0)) rfl trivial ?_
    refine hx_k (l := 25) (m := (-1)) rfl rfl (by decide) (fun z347 h348 => ?_)
    refine hx_pf (q := (0, 0, 0, 0, (-2147483648), 2147483647)) (s := 30) (l := 28) (v := .int z347) rfl rfl rfl (by decide) rfl rfl rfl hw343 hG0 g339 trivial (ck_top_ok (G := G) z347) (fun w349 fs350 g351 e352 o353 n354 hw355 n356 => ?_)
    have hs357 := ty_same_tr hs345 (n356 fz (hx_ok hfz (by decide)))
    have hf358 := hFF _ _ (n356 pr_ (by decide)) hf346
    refine ax_go 1 (y := (29, [some (.ref o), none], [.ref o], w349, 0, 0)) rfl trivial ?_
    refine hx_p0 (l := 32) (as := [.ref o]) rfl rfl (hx_iv (j := 159) (n := 0) (o := o) (r := []) rfl rfl g351 rfl) (hp_X9_readOne (fz := fz) hF (pc := pc) (pp := pp) (fc := fc) (fp := fp) (tk := z323) (e := e) (bd := z347) (io := io) (fw := fw) (lw := lw) hok ⟨by omega, by omega⟩ (fun q hq => (by decide +kernel : ∀ q ∈ fb_hp_X9_reads, q ∈ fb_hp_X9_readOne) q (hfz q hq)) (d + 0)) hw355 hf358 ⟨(hx_tr (G := G) (s := 30) (b := 0) hG0 (by decide)), trivial⟩ (fun o1 h1 => by cases h1; exact ⟨_, g351, ((o353 15 (by decide)).trans ((o341 15 (by decide)).trans ((o329 15 (by decide)).trans ((o317 15 (by decide)).trans iA298)))), ((o353 17 (by decide)).trans ((o341 17 (by decide)).trans ((o329 17 (by decide)).trans ((o317 17 (by decide)).trans iB301)))), ((o353 19 (by decide)).trans ((o341 19 (by decide)).trans e328)), ((o353 18 (by decide)).trans ((o341 18 (by decide)).trans ((o329 18 (by decide)).trans ((o317 18 (by decide)).trans iC304)))), e352, ((o353 10 (by decide)).trans ((o341 10 (by decide)).trans ((o329 10 (by decide)).trans ((o317 10 (by decide)).trans ((hx_kf m287 (hx_mem hG0 (by decide)) g0 g294).trans i10))))), ((o353 8 (by decide)).trans ((o341 8 (by decide)).trans ((o329 8 (by decide)).trans ((o317 8 (by decide)).trans ((hx_kf m287 (hx_mem hG0 (by decide)) g0 g294).trans i8))))), ((o353 9 (by decide)).trans ((o341 9 (by decide)).trans ((o329 9 (by decide)).trans ((o317 9 (by decide)).trans ((hx_kf m287 (hx_mem hG0 (by decide)) g0 g294).trans i9))))), ((n354 _ (hx_ne hG_pc hG0 (by decide))).trans ((n342 _ (hx_ne hG_pc hG0 (by decide))).trans ((n330 _ (hx_ne hG_pc hG0 (by decide))).trans ((n318 _ (hx_ne hG_pc hG0 (by decide))).trans gc305)))), ((n354 _ (hx_ne hG_pp hG0 (by decide))).trans ((n342 _ (hx_ne hG_pp hG0 (by decide))).trans ((n330 _ (hx_ne hG_pp hG0 (by decide))).trans ((n318 _ (hx_ne hG_pp hG0 (by decide))).trans gp306))))⟩) (fun w359 hw360 hf361 m362 u367 => ?_)
    have hs363 := ty_same_tr hs357 m362
    obtain ⟨tN380, bN381, ⟨fsN368, gA369, iA370, iB371, iC372, iD373, iE374, iF375, iG376, iH377, gC378, gP379⟩, ⟨ha382, hb383⟩, hN384⟩ := u367 _ rfl
    try dsimp only at hN384
    refine hx_k (l := 33) (m := 1) rfl rfl (by decide) (fun z385 h386 => ?_)
    refine ax_go 1 (y := (34, [some (.ref o), some (.int z385)], [], w359, 0, 0)) rfl trivial ?_
    exact ct34 _ w359 z385 tN380 bN381 e fc fp pc pp hw360 hf361 hs363 ⟨_, gA369, iC372⟩ ⟨_, gA369, iE374⟩ ⟨_, gA369, iA370⟩ ⟨_, gA369, iB371⟩ ⟨_, gA369, iD373⟩ ⟨_, gA369, iF375⟩ ⟨_, gA369, iG376⟩ ⟨_, gA369, iH377⟩ gC378 gP379 hG_pc hG_pp hok (by omega) (by omega) (by omega) (by omega) (by omega) (fun hb hw0 => by have y := gw_cons (hN384 hb).2 hw0; rw [show z323.toInt.toNat = 0 by omega] at y; exact y) (Nat.lt_succ_self _)
def fb_hp_X9_readsAs : List (Nat × Nat) := [(8, 3), (8, 5), (19, 999), (32, 999), (33, 999), (34, 999), (35, 999), (44, 999), (45, 999), (1, 0), (18, 999), (2, 11), (2, 14), (1, 15), (54, 11), (4, 2), (7, 9), (30, 34), (30, 2), (30, 22), (30, 23), (30, 24), (30, 25), (46, 999), (47, 999), (30, 35), (30, 36), (7, 0), (24, 999), (37, 999), (30, 4), (30, 5), (30, 6), (30, 11), (30, 15), (30, 16), (30, 17), (30, 30), (30, 42), (30, 43), (30, 44), (1, 1), (1, 3), (1, 10), (1, 13), (8, 0), (30, 49), (2, 15), (8, 1)]
set_option maxHeartbeats 8000000 in
theorem hp_X9_readsAs {ro : ab_R} {G : Nat → Nat} {fz : List (Nat × Nat)} {F : ab_W → Prop} (hF : ∀ w w', smt G w w' → F w → F w') (hfz : ∀ q ∈ fz, q ∈ fb_hp_X9_readsAs) (d : Nat) : hx_ct ro sp_ G (F9 G F) fz (ab_Ev ro ab_codes (d + 73)) 167 [(2, 30, 0), (0, 0, 1)] (some (0, 0, 1)) (fun _ _ => True) (fun as _ v w1 => ∀ (o : Nat) (b z : Int32), as = [.ref o, .int b] → v = some (.int z) → z.toInt ≠ 0 → rd_ok (decide (b.toInt ≠ 0)) o w1) := by
  have hFF := F9_same hF
  refine hx_hand (d := d + 72) (by decide) (fun as w hw hf has hP => ?_)
  match as, has with
  | [v0, v1], ⟨h0, h1, _⟩ =>
    obtain ⟨o, rfl, _, hG0⟩ := ty_refn h0 rfl rfl
    replace hG0 : G o = 30 := hG0
    obtain ⟨or, rfl, hl1, hh1⟩ := ty_int h1 rfl
    replace hl1 : (0 : Int) ≤ or.toInt := hl1
    replace hh1 : or.toInt ≤ 1 := hh1
    refine ⟨rfl, ?_⟩
    change ab_wp ro (ab_Ev ro ab_codes (d + 72)) 9 false (some .boolean) ab_k_X9_readsAs (fun o_1 => ∃ v w1, o_1 = (v, w1, 0, 0) ∧ ty_w sp_ G w1 ∧ (F9 G F) w1 ∧ ty_same G fz w w1 ∧ ck_res G (some (0, 0, 1)) v ∧ (fun as _ v w1 => ∀ (o : Nat) (b z : Int32), as = [.ref o, .int b] → v = some (.int z) → z.toInt ≠ 0 → rd_ok (decide (b.toInt ≠ 0)) o w1) ([.ref o, .int or] : List Value) w v w1) (0, [some (.ref o), some (.int or)], [], w, 0, 0)
    refine ax_go 2 (y := (2, [some (.ref o), some (.int or)], [.int or, .ref o], w, 0, 0)) rfl trivial ?_
    obtain ⟨fs1, g2, -, q3⟩ := hx_obj hw hG0 (s := 30) rfl (by decide)
    refine hx_pf (q := (0, 0, 0, 0, 0, 1)) (s := 30) (l := 5) (v := .int or) rfl rfl rfl (by decide) rfl rfl rfl hw hG0 g2 ⟨hx_01 (by omega) (by omega), trivial⟩ (hx_ti (G := G) (lo := 0) (hi := 1) (by omega) (by omega)) (fun w4 fs5 g6 e7 o8 n9 hw10 n11 => ?_)
    have hs12 := ty_same_tr (ty_same_rf w) (n11 fz (hx_ok hfz (by decide)))
    have hf13 := hFF _ _ (n11 pr_ (by decide)) hf
    refine ax_go 2 (y := (7, [some (.ref o), some (.int or)], [.int or, .ref o], w4, 0, 0)) rfl trivial ?_
    refine hx_if_eq (l := 10) rfl rfl (fun h14 => ?_) (fun h14 => ?_)
    · -- 15
      refine hx_k (l := 17) (m := 9) rfl rfl (by decide) (fun z15 h16 => ?_)
      refine hx_pf (q := (0, 0, 0, 0, (-2147483648), 2147483647)) (s := 30) (l := 20) (v := .int z15) rfl rfl rfl (by decide) rfl rfl rfl hw10 hG0 g6 trivial (ck_top_ok (G := G) z15) (fun w17 fs18 g19 e20 o21 n22 hw23 n24 => ?_)
      have hs25 := ty_same_tr hs12 (n24 fz (hx_ok hfz (by decide)))
      have hf26 := hFF _ _ (n24 pr_ (by decide)) hf13
      refine ax_go 2 (y := (22, [some (.ref o), some (.int or)], [.int or, .ref o], w17, 0, 0)) rfl trivial ?_
      refine hx_if_eq (l := 25) rfl rfl (fun h27 => ?_) (fun h27 => ?_)
      · -- 30
        refine hx_k (l := 32) (m := 16) rfl rfl (by decide) (fun z28 h29 => ?_)
        refine hx_pf (q := (0, 0, 0, 0, (-2147483648), 2147483647)) (s := 30) (l := 35) (v := .int z28) rfl rfl rfl (by decide) rfl rfl rfl hw23 hG0 g19 trivial (ck_top_ok (G := G) z28) (fun w30 fs31 g32 e33 o34 n35 hw36 n37 => ?_)
        have hs38 := ty_same_tr hs25 (n37 fz (hx_ok hfz (by decide)))
        have hf39 := hFF _ _ (n37 pr_ (by decide)) hf26
        refine ax_go 1 (y := (36, [some (.ref o), some (.int or)], [.ref o], w30, 0, 0)) rfl trivial ?_
        refine hx_pi (l := 39) (as := [.ref o]) rfl rfl (hx_iv (j := 166) (n := 0) (o := o) (r := []) rfl rfl g32 rfl) (hp_X9_reads (fz := fz) hF (io := or) (fw := z15) (lw := z28) ⟨fun _ => ⟨by omega, by omega⟩, fun _ => ⟨by omega, by omega⟩⟩ (fun q hq => (by decide +kernel : ∀ q ∈ fb_hp_X9_readsAs, q ∈ fb_hp_X9_reads) q (hfz q hq)) (d + 0)) hw36 hf39 ⟨(hx_tr (G := G) (s := 30) (b := 0) hG0 (by decide)), trivial⟩ (fun o1 h1 => by cases h1; exact ⟨⟨_, g32, ((o34 10 (by decide)).trans ((o21 10 (by decide)).trans e7))⟩, ⟨_, g32, ((o34 8 (by decide)).trans e20)⟩, ⟨_, g32, e33⟩⟩) (fun w40 z45 hw41 hf42 m43 a46 b47 u48 => ?_)
        have hs44 := ty_same_tr hs38 m43
        exact ax_ret rfl rfl ⟨hx_01 (by omega) (by omega), trivial⟩ ⟨some (.int z45), _, rfl, hw41, hf42, hs44, (hx_ti (G := G) (lo := 0) (hi := 1) (by omega) (by omega)), (fun o1 b1 z1 h1 h2 hz => by cases h1; cases h2; exact u48 _ _ rfl rfl hz)⟩
      · -- 25
        refine hx_k (l := 27) (m := 20) rfl rfl (by decide) (fun z49 h50 => ?_)
        refine ax_go 1 (y := (32, [some (.ref o), some (.int or)], [.int z49, .ref o], w17, 0, 0)) rfl trivial ?_
        refine hx_pf (q := (0, 0, 0, 0, (-2147483648), 2147483647)) (s := 30) (l := 35) (v := .int z49) rfl rfl rfl (by decide) rfl rfl rfl hw23 hG0 g19 trivial (ck_top_ok (G := G) z49) (fun w51 fs52 g53 e54 o55 n56 hw57 n58 => ?_)
        have hs59 := ty_same_tr hs25 (n58 fz (hx_ok hfz (by decide)))
        have hf60 := hFF _ _ (n58 pr_ (by decide)) hf26
        refine ax_go 1 (y := (36, [some (.ref o), some (.int or)], [.ref o], w51, 0, 0)) rfl trivial ?_
        refine hx_pi (l := 39) (as := [.ref o]) rfl rfl (hx_iv (j := 166) (n := 0) (o := o) (r := []) rfl rfl g53 rfl) (hp_X9_reads (fz := fz) hF (io := or) (fw := z15) (lw := z49) ⟨fun _ => ⟨by omega, by omega⟩, fun _ => ⟨by omega, by omega⟩⟩ (fun q hq => (by decide +kernel : ∀ q ∈ fb_hp_X9_readsAs, q ∈ fb_hp_X9_reads) q (hfz q hq)) (d + 0)) hw57 hf60 ⟨(hx_tr (G := G) (s := 30) (b := 0) hG0 (by decide)), trivial⟩ (fun o1 h1 => by cases h1; exact ⟨⟨_, g53, ((o55 10 (by decide)).trans ((o21 10 (by decide)).trans e7))⟩, ⟨_, g53, ((o55 8 (by decide)).trans e20)⟩, ⟨_, g53, e54⟩⟩) (fun w61 z66 hw62 hf63 m64 a67 b68 u69 => ?_)
        have hs65 := ty_same_tr hs59 m64
        exact ax_ret rfl rfl ⟨hx_01 (by omega) (by omega), trivial⟩ ⟨some (.int z66), _, rfl, hw62, hf63, hs65, (hx_ti (G := G) (lo := 0) (hi := 1) (by omega) (by omega)), (fun o1 b1 z1 h1 h2 hz => by cases h1; cases h2; exact u69 _ _ rfl rfl hz)⟩
    · -- 10
      refine hx_k (l := 12) (m := 14) rfl rfl (by decide) (fun z70 h71 => ?_)
      refine ax_go 1 (y := (17, [some (.ref o), some (.int or)], [.int z70, .ref o], w4, 0, 0)) rfl trivial ?_
      refine hx_pf (q := (0, 0, 0, 0, (-2147483648), 2147483647)) (s := 30) (l := 20) (v := .int z70) rfl rfl rfl (by decide) rfl rfl rfl hw10 hG0 g6 trivial (ck_top_ok (G := G) z70) (fun w72 fs73 g74 e75 o76 n77 hw78 n79 => ?_)
      have hs80 := ty_same_tr hs12 (n79 fz (hx_ok hfz (by decide)))
      have hf81 := hFF _ _ (n79 pr_ (by decide)) hf13
      refine ax_go 2 (y := (22, [some (.ref o), some (.int or)], [.int or, .ref o], w72, 0, 0)) rfl trivial ?_
      refine hx_if_eq (l := 25) rfl rfl (fun h82 => ?_) (fun h82 => ?_)
      · -- 30
        refine hx_k (l := 32) (m := 16) rfl rfl (by decide) (fun z83 h84 => ?_)
        refine hx_pf (q := (0, 0, 0, 0, (-2147483648), 2147483647)) (s := 30) (l := 35) (v := .int z83) rfl rfl rfl (by decide) rfl rfl rfl hw78 hG0 g74 trivial (ck_top_ok (G := G) z83) (fun w85 fs86 g87 e88 o89 n90 hw91 n92 => ?_)
        have hs93 := ty_same_tr hs80 (n92 fz (hx_ok hfz (by decide)))
        have hf94 := hFF _ _ (n92 pr_ (by decide)) hf81
        refine ax_go 1 (y := (36, [some (.ref o), some (.int or)], [.ref o], w85, 0, 0)) rfl trivial ?_
        refine hx_pi (l := 39) (as := [.ref o]) rfl rfl (hx_iv (j := 166) (n := 0) (o := o) (r := []) rfl rfl g87 rfl) (hp_X9_reads (fz := fz) hF (io := or) (fw := z70) (lw := z83) ⟨fun _ => ⟨by omega, by omega⟩, fun _ => ⟨by omega, by omega⟩⟩ (fun q hq => (by decide +kernel : ∀ q ∈ fb_hp_X9_readsAs, q ∈ fb_hp_X9_reads) q (hfz q hq)) (d + 0)) hw91 hf94 ⟨(hx_tr (G := G) (s := 30) (b := 0) hG0 (by decide)), trivial⟩ (fun o1 h1 => by cases h1; exact ⟨⟨_, g87, ((o89 10 (by decide)).trans ((o76 10 (by decide)).trans e7))⟩, ⟨_, g87, ((o89 8 (by decide)).trans e75)⟩, ⟨_, g87, e88⟩⟩) (fun w95 z100 hw96 hf97 m98 a101 b102 u103 => ?_)
        have hs99 := ty_same_tr hs93 m98
        exact ax_ret rfl rfl ⟨hx_01 (by omega) (by omega), trivial⟩ ⟨some (.int z100), _, rfl, hw96, hf97, hs99, (hx_ti (G := G) (lo := 0) (hi := 1) (by omega) (by omega)), (fun o1 b1 z1 h1 h2 hz => by cases h1; cases h2; exact u103 _ _ rfl rfl hz)⟩
      · -- 25
        refine hx_k (l := 27) (m := 20) rfl rfl (by decide) (fun z104 h105 => ?_)
        refine ax_go 1 (y := (32, [some (.ref o), some (.int or)], [.int z104, .ref o], w72, 0, 0)) rfl trivial ?_
        refine hx_pf (q := (0, 0, 0, 0, (-2147483648), 2147483647)) (s := 30) (l := 35) (v := .int z104) rfl rfl rfl (by decide) rfl rfl rfl hw78 hG0 g74 trivial (ck_top_ok (G := G) z104) (fun w106 fs107 g108 e109 o110 n111 hw112 n113 => ?_)
        have hs114 := ty_same_tr hs80 (n113 fz (hx_ok hfz (by decide)))
        have hf115 := hFF _ _ (n113 pr_ (by decide)) hf81
        refine ax_go 1 (y := (36, [some (.ref o), some (.int or)], [.ref o], w106, 0, 0)) rfl trivial ?_
        refine hx_pi (l := 39) (as := [.ref o]) rfl rfl (hx_iv (j := 166) (n := 0) (o := o) (r := []) rfl rfl g108 rfl) (hp_X9_reads (fz := fz) hF (io := or) (fw := z70) (lw := z104) ⟨fun _ => ⟨by omega, by omega⟩, fun _ => ⟨by omega, by omega⟩⟩ (fun q hq => (by decide +kernel : ∀ q ∈ fb_hp_X9_readsAs, q ∈ fb_hp_X9_reads) q (hfz q hq)) (d + 0)) hw112 hf115 ⟨(hx_tr (G := G) (s := 30) (b := 0) hG0 (by decide)), trivial⟩ (fun o1 h1 => by cases h1; exact ⟨⟨_, g108, ((o110 10 (by decide)).trans ((o76 10 (by decide)).trans e7))⟩, ⟨_, g108, ((o110 8 (by decide)).trans e75)⟩, ⟨_, g108, e109⟩⟩) (fun w116 z121 hw117 hf118 m119 a122 b123 u124 => ?_)
        have hs120 := ty_same_tr hs114 m119
        exact ax_ret rfl rfl ⟨hx_01 (by omega) (by omega), trivial⟩ ⟨some (.int z121), _, rfl, hw117, hf118, hs120, (hx_ti (G := G) (lo := 0) (hi := 1) (by omega) (by omega)), (fun o1 b1 z1 h1 h2 hz => by cases h1; cases h2; exact u124 _ _ rfl rfl hz)⟩
def fb_hp_X9_lays : List (Nat × Nat) := [(8, 3), (8, 5), (19, 999), (33, 999), (34, 999), (35, 999), (44, 999), (45, 999), (1, 0), (18, 999), (2, 11), (2, 14), (1, 15), (54, 11), (4, 2), (7, 9), (30, 13), (30, 34), (30, 2), (30, 22), (30, 23), (30, 24), (30, 25), (46, 999), (47, 999), (30, 35), (30, 36), (7, 0), (24, 999), (37, 999), (30, 4), (30, 5), (30, 6), (30, 8), (30, 9), (30, 10), (30, 11), (30, 14), (30, 15), (30, 16), (30, 17), (30, 18), (30, 19), (30, 20), (30, 21), (39, 999), (40, 999), (41, 999), (30, 30), (30, 42), (30, 43), (30, 44), (1, 1), (1, 3), (1, 10), (1, 13), (8, 0), (30, 49), (2, 15), (8, 1)]
set_option maxHeartbeats 8000000 in
theorem hp_X9_lays {ro : ab_R} {G : Nat → Nat} {fz : List (Nat × Nat)} {F : ab_W → Prop} (hF : ∀ w w', ty_same G prM w w' → F w → F w') (hfz : ∀ q ∈ fz, q ∈ fb_hp_X9_lays) (d : Nat) : hx_ct ro sp_ G (F9 G F) fz (ab_Ev ro ab_codes (d + 1)) 168 [(2, 30, 0), (0, 0, 6)] none (fun as w => ∀ (o : Nat) (t : Int32) (pk : Nat) (f : Nat → Int32), as = [.ref o, .int t] → hx_has w o 9 2 (.ref pk) → w[pk]? = some (.inl (0, 5721, .inl f)) → (f 112).toInt ≤ t.toInt) (fun as w _ w1 => ∀ (o : Nat) (t : Int32) (pk : Nat) (f : Nat → Int32) (pc : Nat) (fc : Nat → Int32) (e : Int32), as = [.ref o, .int t] → hx_has w o 9 2 (.ref pk) → w[pk]? = some (.inl (0, 5721, .inl f)) → hx_has w o 9 15 (.ref pc) → w[pc]? = some (.inl (0, 401, .inl fc)) → hx_has w o 9 18 (.int e) → hx_has w1 o 9 2 (.ref pk) ∧ ∃ f2, w1[pk]? = some (.inl (0, 5721, .inl f2)) ∧ (∀ j : Nat, j < 114 → f2 j = f j) ∧ (f2 (114 + t.toInt.toNat)).toInt = e.toInt ∧ ∀ j : Nat, (j : Int) < e.toInt → f2 (121 + 400 * t.toInt.toNat + j) = fc j) := by
  have hFF := F9_sameN hF
  refine hx_hand (d := d + 0) (by decide) (fun as w hw hf has hP => ?_)
  match as, has with
  | [v0, v1], ⟨h0, h1, _⟩ =>
    obtain ⟨o, rfl, _, hG0⟩ := ty_refn h0 rfl rfl
    replace hG0 : G o = 30 := hG0
    obtain ⟨t, rfl, hl1, hh1⟩ := ty_int h1 rfl
    replace hl1 : (0 : Int) ≤ t.toInt := hl1
    replace hh1 : t.toInt ≤ 6 := hh1
    refine ⟨rfl, ?_⟩
    obtain ⟨fs1, g2, -, q3⟩ := hx_obj hw hG0 (s := 30) rfl (by decide)
    obtain ⟨pk, e_pk, hG_pk⟩ := hx_fr (k := 2) (s := 32) q3 rfl
    obtain ⟨pc, e_pc, hG_pc⟩ := hx_fr (k := 15) (s := 39) q3 rfl
    obtain ⟨pv, e_pv, hG_pv⟩ := hx_fr (k := 16) (s := 40) q3 rfl
    obtain ⟨f0, g_f0, r_f0⟩ := hx_row hw hG_pk (s := 32) (kd := 0) (n := 5721) rfl (by decide)
    obtain ⟨fc, g_fc, r_fc⟩ := hx_row hw hG_pc (s := 39) (kd := 0) (n := 401) rfl (by decide)
    obtain ⟨x4, e5, a6, b7⟩ := hx_fi (k := 18) (lo := 0) (hi := 400) q3 rfl
    have hp0 := hP o t pk f0 rfl ⟨_, g2, e_pk⟩ g_f0
    have ct15 : ∀ (nq : Nat) (w8 : ab_W) (k : Int32) (e : Int32) (fk : Nat → Int32), ty_w sp_ G w8 → (F9 G F) w8 → ty_same G fz w w8 → (hx_has w8 o 9 18 (.int e)) → (hx_has w8 o 9 2 (.ref pk)) → (hx_has w8 o 9 15 (.ref pc)) → (hx_has w8 o 9 16 (.ref pv)) → (w8[pk]? = some (.inl (0, 5721, .inl fk))) → (w8[pc]? = some (.inl (0, 401, .inl fc))) → (0 ≤ k.toInt) → (k.toInt ≤ e.toInt) → (e.toInt = x4.toInt) → (fk (114 + t.toInt.toNat) = x4) → (∀ j : Nat, (j : Int) < k.toInt → fk (121 + 400 * t.toInt.toNat + j) = fc j) → (∀ j : Nat, j < 114 → fk j = f0 j) → (401 - k.toInt).toNat < nq → ab_wp ro (ab_Ev ro ab_codes d) 9 false none ab_k_X9_lays (fun o_1 => ∃ v w1, o_1 = (v, w1, 0, 0) ∧ ty_w sp_ G w1 ∧ (F9 G F) w1 ∧ ty_same G fz w w1 ∧ ck_res G none v ∧ (fun as w _ w1 => ∀ (o : Nat) (t : Int32) (pk : Nat) (f : Nat → Int32) (pc : Nat) (fc : Nat → Int32) (e : Int32), as = [.ref o, .int t] → hx_has w o 9 2 (.ref pk) → w[pk]? = some (.inl (0, 5721, .inl f)) → hx_has w o 9 15 (.ref pc) → w[pc]? = some (.inl (0, 401, .inl fc)) → hx_has w o 9 18 (.int e) → hx_has w1 o 9 2 (.ref pk) ∧ ∃ f2, w1[pk]? = some (.inl (0, 5721, .inl f2)) ∧ (∀ j : Nat, j < 114 → f2 j = f j) ∧ (f2 (114 + t.toInt.toNat)).toInt = e.toInt ∧ ∀ j : Nat, (j : Int) < e.toInt → f2 (121 + 400 * t.toInt.toNat + j) = fc j) ([.ref o, .int t] : List Value) w v w1) (15, [some (.ref o), some (.int t), some (.int k)], [], w8, 0, 0) := by
      intro nq
      induction nq with
      | zero => intro w8 k e fk hw18 hf19 hs20 hh9 hh10 hh11 hh12 g13 g14 i15 i16 i17 hsz hcp hlow hm; exact absurd hm (Nat.not_lt_zero _)
      | succ nq ih15 =>
        intro w8 k e fk hw18 hf19 hs20 hh9 hh10 hh11 hh12 g13 g14 i15 i16 i17 hsz hcp hlow hm15
        obtain ⟨fs21, g22, e23⟩ := hh9
        have q24 := hx_oq hw18 g22 hG0 (s := 30) rfl
        obtain ⟨x25, e26, a27, b28⟩ := hx_fi (k := 18) (lo := 0) (hi := 400) q24 rfl
        obtain rfl : e = x25 := hx_inji e23 e26
        obtain ⟨fs29, g30, e31⟩ := hh10
        obtain rfl : fs21 = fs29 := hx_inj g22 g30
        obtain ⟨fs32, g33, e34⟩ := hh11
        obtain rfl : fs21 = fs32 := hx_inj g22 g33
        obtain ⟨fs35, g36, e37⟩ := hh12
        obtain rfl : fs21 = fs35 := hx_inj g22 g36
        refine ax_go 2 (y := (17, [some (.ref o), some (.int t), some (.int k)], [.ref o, .int k], w8, 0, 0)) rfl trivial ?_
        refine hx_gf (l := 20) rfl rfl rfl g22 e23 ?_
        refine hx_ic_ge (l := 23) rfl rfl (fun h38 => ?_) (fun h38 => ?_)
        · -- 72
          exact ax_ret rfl rfl trivial ⟨none, _, rfl, hw18, hf19, hs20, trivial, (fun o1 t1 pk1 f1 pc1 fc1 e1 h1 h2 h3 h4 h5 h6 => by cases h1; obtain ⟨fsA, gA, iA⟩ := h2; obtain rfl := hx_inj g2 gA; cases e_pk.symm.trans iA; obtain rfl := hx_injr g_f0 h3; obtain ⟨fsB, gB, iB⟩ := h4; obtain rfl := hx_inj g2 gB; cases e_pc.symm.trans iB; obtain rfl := hx_injr g_fc h5; obtain ⟨fsC, gC, iC⟩ := h6; obtain rfl := hx_inj g2 gC; obtain rfl := hx_inji e5 iC; exact ⟨⟨_, g22, e31⟩, fk, g13, fun j hj => hlow j (by omega), congrArg Int32.toInt hsz, fun j hj => hcp j (by omega)⟩)⟩
        · -- 23
          refine ax_go 1 (y := (24, [some (.ref o), some (.int t), some (.int k)], [.ref o], w8, 0, 0)) rfl trivial ?_
          refine hx_gf (l := 27) rfl rfl rfl g22 e31 ?_
          refine hx_k (l := 29) (m := 121) rfl rfl (by decide) (fun z39 h40 => ?_)
          refine hx_k (l := 32) (m := 400) rfl rfl (by decide) (fun z41 h42 => ?_)
          refine ax_go 1 (y := (33, [some (.ref o), some (.int t), some (.int k)], [.int t, .int z41, .int z39, .ref pk], w8, 0, 0)) rfl trivial ?_
          refine hx_mul (l := 34) rfl rfl (fun z43 h44 => ?_)
          rw [h42] at h44
          replace h44 := h44 (by omega) (by omega)
          refine hx_add (l := 35) rfl rfl (fun z45 h46 => ?_)
          replace h46 := h46 (by omega) (by omega)
          refine ax_go 1 (y := (36, [some (.ref o), some (.int t), some (.int k)], [.int k, .int z45, .ref pk], w8, 0, 0)) rfl trivial ?_
          refine hx_add (l := 37) rfl rfl (fun z47 h48 => ?_)
          replace h48 := h48 (by omega) (by omega)
          refine ax_go 1 (y := (38, [some (.ref o), some (.int t), some (.int k)], [.ref o, .int z47, .ref pk], w8, 0, 0)) rfl trivial ?_
          refine hx_gf (l := 41) rfl rfl rfl g22 e34 ?_
          refine ax_go 1 (y := (42, [some (.ref o), some (.int t), some (.int k)], [.int k, .ref pc, .int z47, .ref pk], w8, 0, 0)) rfl trivial ?_
          have r49 := hx_rq hw18 g14 hG_pc (s := 39) rfl
          refine hx_il (l := 43) rfl rfl g14 (by omega) (by omega) (fun z50 h51 => ?_)
          refine hx_is (s := 32) (l := 44) rfl rfl rfl hw18 hG_pk g13 (by omega) (by omega) (hx_sg1 (fun _ _ _ => ⟨by omega, by omega⟩) (hx_sg1 (fun _ _ _ => ⟨by omega, by omega⟩) (hx_sg1 (fun _ _ _ => ⟨by omega, by omega⟩) (hx_sg1 (fun _ _ _ => ⟨by omega, by omega⟩) (hx_sg1 (fun _ _ _ => ⟨by omega, by omega⟩) (hx_sg1 (fun _ _ _ => ⟨by omega, by omega⟩) (hx_sg1 (fun _ _ _ => ⟨by omega, by omega⟩) (hx_sg1 (fun _ _ _ => ⟨by omega, by omega⟩) (hx_sg1 (fun _ _ _ => ⟨by omega, by omega⟩) hx_sg0))))))))) (fun w52 f53 g54 e55 o56 n57 hw58 n59 => ?_)
          have hs60 := ty_same_tr hs20 (n59 fz (hx_ok hfz (by decide)))
          have kp62 := hf19.1.1 _ _ hG_pk g13
          have kq43 : z47.toInt.toNat < 5721 → kb z47.toInt.toNat z50.toInt := fun _ => ⟨⟨fun _ => by omega, fun _ _ _ => by omega, fun _ _ _ => by omega, fun _ => by omega⟩, fun _ _ => by omega, fun _ _ _ => by omega, fun _ => by omega, fun _ => by omega, fun _ => by omega, fun _ => by omega, fun _ => by omega, fun _ _ => by omega⟩
          have kt43 : (fk 112).toInt ≤ (t.toInt.toNat : Int) := by rw [hlow 112 (by omega)]; omega
          have hf61 : F9 G F w52 := ⟨FM_k hf19.1 hG_pk g54 n57 (KP_txt kp62 o56 (by rw [e55]; exact kq43) kt43 (by omega) (by omega)), hF _ _ (n59 prM (by decide)) hf19.2⟩
          refine ax_go 1 (y := (45, [some (.ref o), some (.int t), some (.int k)], [.ref o], w52, 0, 0)) rfl trivial ?_
          refine hx_gf (l := 48) rfl rfl rfl ((n57 _ (hx_ne hG0 hG_pk (by decide))).trans g22) e31 ?_
          refine hx_k (l := 51) (m := 2921) rfl rfl (by decide) (fun z64 h65 => ?_)
          refine hx_k (l := 54) (m := 400) rfl rfl (by decide) (fun z66 h67 => ?_)
          refine ax_go 1 (y := (55, [some (.ref o), some (.int t), some (.int k)], [.int t, .int z66, .int z64, .ref pk], w52, 0, 0)) rfl trivial ?_
          refine hx_mul (l := 56) rfl rfl (fun z68 h69 => ?_)
          rw [h67] at h69
          replace h69 := h69 (by omega) (by omega)
          refine hx_add (l := 57) rfl rfl (fun z70 h71 => ?_)
          replace h71 := h71 (by omega) (by omega)
          refine ax_go 1 (y := (58, [some (.ref o), some (.int t), some (.int k)], [.int k, .int z70, .ref pk], w52, 0, 0)) rfl trivial ?_
          refine hx_add (l := 59) rfl rfl (fun z72 h73 => ?_)
          replace h73 := h73 (by omega) (by omega)
          refine ax_go 1 (y := (60, [some (.ref o), some (.int t), some (.int k)], [.ref o, .int z72, .ref pk], w52, 0, 0)) rfl trivial ?_
          refine hx_gf (l := 63) rfl rfl rfl ((n57 _ (hx_ne hG0 hG_pk (by decide))).trans g22) e37 ?_
          refine ax_go 1 (y := (64, [some (.ref o), some (.int t), some (.int k)], [.int k, .ref pv, .int z72, .ref pk], w52, 0, 0)) rfl trivial ?_
          obtain ⟨f74, g75, r76⟩ := hx_row hw58 hG_pv (s := 40) (kd := 0) (n := 401) rfl (by decide)
          refine hx_il (l := 65) rfl rfl g75 (by omega) (by omega) (fun z77 h78 => ?_)
          refine hx_is (s := 32) (l := 66) rfl rfl rfl hw58 hG_pk g54 (by omega) (by omega) (hx_sg1 (fun _ _ _ => ⟨by omega, by omega⟩) (hx_sg1 (fun _ _ _ => ⟨by omega, by omega⟩) (hx_sg1 (fun _ _ _ => ⟨by omega, by omega⟩) (hx_sg1 (fun _ _ _ => ⟨by omega, by omega⟩) (hx_sg1 (fun _ _ _ => ⟨by omega, by omega⟩) (hx_sg1 (fun _ _ _ => ⟨by omega, by omega⟩) (hx_sg1 (fun _ _ _ => ⟨by omega, by omega⟩) (hx_sg1 (fun _ _ _ => ⟨by omega, by omega⟩) (hx_sg1 (fun _ _ _ => ⟨by omega, by omega⟩) hx_sg0))))))))) (fun w79 f80 g81 e82 o83 n84 hw85 n86 => ?_)
          have hs87 := ty_same_tr hs60 (n86 fz (hx_ok hfz (by decide)))
          have kp89 := hf61.1.1 _ _ hG_pk g54
          have kq65 : z72.toInt.toNat < 5721 → kb z72.toInt.toNat z77.toInt := fun _ => ⟨⟨fun _ => by omega, fun _ _ _ => by omega, fun _ _ _ => by omega, fun _ => by omega⟩, fun _ _ => by omega, fun _ _ _ => by omega, fun _ => by omega, fun _ => by omega, fun _ => by omega, fun _ => by omega, fun _ => by omega, fun _ _ => by omega⟩
          have kt65 : (f53 112).toInt ≤ (t.toInt.toNat : Int) := by rw [o56 112 (by omega), hlow 112 (by omega)]; omega
          have hf88 : F9 G F w79 := ⟨FM_k hf61.1 hG_pk g81 n84 (KP_txt kp89 o83 (by rw [e82]; exact kq65) kt65 (by omega) (by omega)), hF _ _ (n86 prM (by decide)) hf61.2⟩
          refine hx_iinc (x := k) (n := 1) (l := 69) rfl rfl rfl (Nat.le_of_ble_eq_true rfl) (by omega) (by omega) (by decide) (fun z91 h92 => ?_)
          change ab_wp ro (ab_Ev ro ab_codes d) 9 false none ab_k_X9_lays (fun o_1 => ∃ v w1, o_1 = (v, w1, 0, 0) ∧ ty_w sp_ G w1 ∧ (F9 G F) w1 ∧ ty_same G fz w w1 ∧ ck_res G none v ∧ (fun as w _ w1 => ∀ (o : Nat) (t : Int32) (pk : Nat) (f : Nat → Int32) (pc : Nat) (fc : Nat → Int32) (e : Int32), as = [.ref o, .int t] → hx_has w o 9 2 (.ref pk) → w[pk]? = some (.inl (0, 5721, .inl f)) → hx_has w o 9 15 (.ref pc) → w[pc]? = some (.inl (0, 401, .inl fc)) → hx_has w o 9 18 (.int e) → hx_has w1 o 9 2 (.ref pk) ∧ ∃ f2, w1[pk]? = some (.inl (0, 5721, .inl f2)) ∧ (∀ j : Nat, j < 114 → f2 j = f j) ∧ (f2 (114 + t.toInt.toNat)).toInt = e.toInt ∧ ∀ j : Nat, (j : Int) < e.toInt → f2 (121 + 400 * t.toInt.toNat + j) = fc j) ([.ref o, .int t] : List Value) w v w1) (69, [some (.ref o), some (.int t), some (.int z91)], [], w79, 0, 0)
          refine ax_go 1 (y := (15, [some (.ref o), some (.int t), some (.int z91)], [], w79, 0, 0)) rfl trivial ?_
          exact ih15 w79 z91 e f80 hw85 hf88 hs87 ⟨_, ((n84 _ (hx_ne hG0 hG_pk (by decide))).trans ((n57 _ (hx_ne hG0 hG_pk (by decide))).trans g22)), e23⟩ ⟨_, ((n84 _ (hx_ne hG0 hG_pk (by decide))).trans ((n57 _ (hx_ne hG0 hG_pk (by decide))).trans g22)), e31⟩ ⟨_, ((n84 _ (hx_ne hG0 hG_pk (by decide))).trans ((n57 _ (hx_ne hG0 hG_pk (by decide))).trans g22)), e34⟩ ⟨_, ((n84 _ (hx_ne hG0 hG_pk (by decide))).trans ((n57 _ (hx_ne hG0 hG_pk (by decide))).trans g22)), e37⟩ g81 ((n84 _ (hx_ne hG_pc hG_pk (by decide))).trans ((n57 _ (hx_ne hG_pc hG_pk (by decide))).trans g14)) (by omega) (by omega) (by omega) (by rw [o83 _ (by omega), o56 _ (by omega)]; exact hsz) (fun j hj => by
            rw [o83 _ (by omega)]
            by_cases zz : (j : Int) = k.toInt
            · rw [show 121 + 400 * t.toInt.toNat + j = z47.toInt.toNat by omega, e55, h51, show k.toInt.toNat = j by omega]
            · rw [o56 _ (by omega)]; exact hcp j (by omega)) (fun j hj => by rw [o83 _ (by omega), o56 _ (by omega)]; exact hlow j hj) (by omega)
    change ab_wp ro (ab_Ev ro ab_codes d) 9 false none ab_k_X9_lays (fun o_1 => ∃ v w1, o_1 = (v, w1, 0, 0) ∧ ty_w sp_ G w1 ∧ (F9 G F) w1 ∧ ty_same G fz w w1 ∧ ck_res G none v ∧ (fun as w _ w1 => ∀ (o : Nat) (t : Int32) (pk : Nat) (f : Nat → Int32) (pc : Nat) (fc : Nat → Int32) (e : Int32), as = [.ref o, .int t] → hx_has w o 9 2 (.ref pk) → w[pk]? = some (.inl (0, 5721, .inl f)) → hx_has w o 9 15 (.ref pc) → w[pc]? = some (.inl (0, 401, .inl fc)) → hx_has w o 9 18 (.int e) → hx_has w1 o 9 2 (.ref pk) ∧ ∃ f2, w1[pk]? = some (.inl (0, 5721, .inl f2)) ∧ (∀ j : Nat, j < 114 → f2 j = f j) ∧ (f2 (114 + t.toInt.toNat)).toInt = e.toInt ∧ ∀ j : Nat, (j : Int) < e.toInt → f2 (121 + 400 * t.toInt.toNat + j) = fc j) ([.ref o, .int t] : List Value) w v w1) (0, [some (.ref o), some (.int t), none], [], w, 0, 0)
    refine ax_go 1 (y := (1, [some (.ref o), some (.int t), none], [.ref o], w, 0, 0)) rfl trivial ?_
    refine hx_gf (l := 4) rfl rfl rfl g2 e_pk ?_
    refine hx_k (l := 6) (m := 114) rfl rfl (by decide) (fun z93 h94 => ?_)
    refine ax_go 1 (y := (7, [some (.ref o), some (.int t), none], [.int t, .int z93, .ref pk], w, 0, 0)) rfl trivial ?_
    refine hx_add (l := 8) rfl rfl (fun z95 h96 => ?_)
    replace h96 := h96 (by omega) (by omega)
    refine ax_go 1 (y := (9, [some (.ref o), some (.int t), none], [.ref o, .int z95, .ref pk], w, 0, 0)) rfl trivial ?_
    refine hx_gf (l := 12) rfl rfl rfl g2 e5 ?_
    refine hx_is (s := 32) (l := 13) rfl rfl rfl hw hG_pk g_f0 (by omega) (by omega) (hx_sg1 (fun _ _ _ => ⟨by omega, by omega⟩) (hx_sg1 (fun _ _ _ => ⟨by omega, by omega⟩) (hx_sg1 (fun _ _ _ => ⟨by omega, by omega⟩) (hx_sg1 (fun _ _ _ => ⟨by omega, by omega⟩) (hx_sg1 (fun _ _ _ => ⟨by omega, by omega⟩) (hx_sg1 (fun _ _ _ => ⟨by omega, by omega⟩) (hx_sg1 (fun _ _ _ => ⟨by omega, by omega⟩) (hx_sg1 (fun _ _ _ => ⟨by omega, by omega⟩) (hx_sg1 (fun _ _ _ => ⟨by omega, by omega⟩) hx_sg0))))))))) (fun w97 f98 g99 e100 o101 n102 hw103 n104 => ?_)
    have hs105 := ty_same_tr (ty_same_rf w) (n104 fz (hx_ok hfz (by decide)))
    have kp107 := hf.1.1 _ _ hG_pk g_f0
    have kq12 : z95.toInt.toNat < 5721 → kb z95.toInt.toNat x4.toInt := fun _ => ⟨⟨fun _ => by omega, fun _ _ _ => by omega, fun _ _ _ => by omega, fun _ => by omega⟩, fun _ _ => by omega, fun _ _ _ => by omega, fun _ => by omega, fun _ => by omega, fun _ => by omega, fun _ => by omega, fun _ => by omega, fun _ _ => by omega⟩
    have kt12 : (f0 112).toInt ≤ (t.toInt.toNat : Int) := by omega
    have hf106 : F9 G F w97 := ⟨FM_k hf.1 hG_pk g99 n102 (KP_txt kp107 o101 (by rw [e100]; exact kq12) kt12 (by omega) (by omega)), hF _ _ (n104 prM (by decide)) hf.2⟩
    refine hx_k (l := 14) (m := 0) rfl rfl (by decide) (fun z109 h110 => ?_)
    refine ax_go 1 (y := (15, [some (.ref o), some (.int t), some (.int z109)], [], w97, 0, 0)) rfl trivial ?_
    exact ct15 _ w97 z109 x4 f98 hw103 hf106 hs105 ⟨_, ((n102 _ (hx_ne hG0 hG_pk (by decide))).trans g2), e5⟩ ⟨_, ((n102 _ (hx_ne hG0 hG_pk (by decide))).trans g2), e_pk⟩ ⟨_, ((n102 _ (hx_ne hG0 hG_pk (by decide))).trans g2), e_pc⟩ ⟨_, ((n102 _ (hx_ne hG0 hG_pk (by decide))).trans g2), e_pv⟩ g99 ((n102 _ (hx_ne hG_pc hG_pk (by decide))).trans g_fc) (by omega) (by omega) (by omega) (by rw [show 114 + t.toInt.toNat = z95.toInt.toNat by omega, e100]) (fun j hj => absurd hj (by omega)) (fun j hj => o101 j (by omega)) (Nat.lt_succ_self _)
def fb_X9_law : List (Nat × Nat) := [(8, 3), (8, 5), (19, 999), (33, 999), (34, 999), (35, 999), (44, 999), (45, 999), (1, 0), (18, 999), (2, 11), (2, 14), (1, 15), (54, 11), (4, 2), (7, 9), (30, 34), (30, 2), (30, 22), (30, 23), (30, 24), (30, 25), (46, 999), (47, 999), (30, 35), (30, 36), (7, 0), (24, 999), (37, 999), (30, 4), (30, 5), (30, 6), (30, 11), (30, 15), (30, 16), (30, 17), (30, 30), (30, 42), (30, 43), (30, 44), (1, 1), (1, 3), (1, 10), (1, 13), (8, 0), (30, 49), (2, 15), (8, 1)]
set_option maxHeartbeats 8000000 in
theorem h_X9_law {ro : ab_R} {G : Nat → Nat} {fz : List (Nat × Nat)} {F : ab_W → Prop} (hF : ∀ w w', ty_same G prM w w' → F w → F w') (hfz : ∀ q ∈ fz, q ∈ fb_X9_law) (d : Nat) : ck_ct ro sp_ G (F9 G F) fz (ab_Ev ro ab_codes (d + 75)) 169 [(2, 30, 0)] (some (0, (-2147483648), 2147483647)) 0 0 := by
  have hFF := F9_sameN hF
  refine ck_hand (d := d + 74) (by decide) (fun as w hw hf has => ?_)
  match as, has with
  | [v0], ⟨h0, _⟩ =>
    obtain ⟨o, rfl, _, hG0⟩ := ty_refn h0 rfl rfl
    replace hG0 : G o = 30 := hG0
    refine ⟨rfl, ?_⟩
    obtain ⟨fs1, g2, -, q3⟩ := hx_obj hw hG0 (s := 30) rfl (by decide)
    obtain ⟨pk, e_pk, hG_pk⟩ := hx_fr (k := 2) (s := 32) q3 rfl
    obtain ⟨f0, g_f0, r_f0⟩ := hx_row hw hG_pk (s := 32) (kd := 0) (n := 5721) rfl (by decide)
    change ab_wp ro (ab_Ev ro ab_codes (d + 74)) 9 false (some .int) ab_k_X9_law (fun o_1 => ∃ v w1, o_1 = (v, w1, 0, 0) ∧ ty_w sp_ G w1 ∧ (F9 G F) w1 ∧ ty_same G fz w w1 ∧ ck_res G (some (0, (-2147483648), 2147483647)) v ∧ ck_wit 0 0 [.ref o] v) (0, [some (.ref o)], [], w, 0, 0)
    refine ax_go 1 (y := (1, [some (.ref o)], [.ref o], w, 0, 0)) rfl trivial ?_
    refine hx_gf (l := 4) rfl rfl rfl g2 e_pk ?_
    refine hx_k (l := 6) (m := 112) rfl rfl (by decide) (fun z4 h5 => ?_)
    refine hx_il (l := 7) rfl rfl g_f0 (by omega) (by omega) (fun z6 h7 => ?_)
    have b8 := ((hf.1.1 _ _ hG_pk g_f0).1 z4.toInt.toNat (by omega)).2.2.2.2.2.2.1 (by omega)
    rw [← h7] at b8
    rw [show z4.toInt.toNat = 112 by omega] at h7
    replace h7 := congrArg Int32.toInt h7
    refine hx_k (l := 9) (m := 6) rfl rfl (by decide) (fun z9 h10 => ?_)
    refine hx_ic_ne (l := 12) rfl rfl (fun h11 => ?_) (fun h11 => ?_)
    · -- 24
      refine ax_go 1 (y := (25, [some (.ref o)], [.ref o], w, 0, 0)) rfl trivial ?_
      refine hx_k (l := 26) (m := 0) rfl rfl (by decide) (fun z12 h13 => ?_)
      refine hx_pi (l := 29) (as := [.ref o, .int z12]) rfl rfl (hx_iv (j := 167) (n := 1) (o := o) (r := []) rfl rfl g2 rfl) (hp_X9_readsAs (fz := ([(32, 999), (30, 2)] ++ fz)) (fun _ _ h => hF _ _ h.1) (hx_app (by decide +kernel) (fun q hq => (by decide +kernel : ∀ q ∈ fb_X9_law, q ∈ fb_hp_X9_readsAs) q (hfz q hq))) (d + 1)) hw hf ⟨(hx_tr (G := G) (s := 30) (b := 0) hG0 (by decide)), (hx_ti (G := G) (lo := 0) (hi := 1) (by omega) (by omega)), trivial⟩ trivial (fun w14 z19 hw15 hf16 m17 a20 b21 u22 => ?_)
      have hs18 := ty_same_tr (ty_same_rf w) (hx_sapp m17)
      obtain ⟨fs23, g24, -, q25⟩ := hx_obj hw15 hG0 (s := 30) rfl (by decide)
      refine hx_if_ne (l := 32) rfl rfl (fun h26 => ?_) (fun h26 => ?_)
      · -- 39
        obtain ⟨pc, fc, e, ⟨fsA27, gA28, iA29⟩, ⟨fsB30, gB31, iB32⟩, gc33, ⟨ha34, hb35⟩, hGW⟩ := u22 _ _ _ rfl rfl (by omega)
        obtain rfl := hx_inj g24 gA28
        obtain rfl := hx_inj g24 gB31
        have hG_pc := pa_r15 hw15 g24 hG0 iA29
        have hGW0 : decide (z12.toInt ≠ 0) = false := decide_eq_false (fun y => y (by omega))
        refine ax_go 2 (y := (41, [some (.ref o)], [.ref o, .ref o], w14, 0, 0)) rfl trivial ?_
        refine hx_gf (l := 44) rfl rfl rfl g24 ((hx_kf m17 (hx_mem hG0 (by decide)) g2 g24).trans e_pk) ?_
        refine hx_k (l := 46) (m := 112) rfl rfl (by decide) (fun z36 h37 => ?_)
        refine hx_il (l := 47) rfl rfl ((hx_kr m17 (hx_mem hG_pk (by decide))).trans g_f0) (by omega) (by omega) (fun z38 h39 => ?_)
        have b40 := ((hf16.1.1 _ _ hG_pk ((hx_kr m17 (hx_mem hG_pk (by decide))).trans g_f0)).1 z36.toInt.toNat (by omega)).2.2.2.2.2.2.1 (by omega)
        rw [← h39] at b40
        rw [show z36.toInt.toNat = 112 by omega] at h39
        replace h39 := congrArg Int32.toInt h39
        refine hx_p0 (l := 50) (as := [.ref o, .int z38]) rfl rfl (hx_iv (j := 168) (n := 1) (o := o) (r := []) rfl rfl g24 rfl) (hp_X9_lays (fz := fz) hF (fun q hq => (by decide +kernel : ∀ q ∈ fb_X9_law, q ∈ fb_hp_X9_lays) q (hfz q hq)) (d + 73)) hw15 hf16 ⟨(hx_tr (G := G) (s := 30) (b := 0) hG0 (by decide)), (hx_ti (G := G) (lo := 0) (hi := 6) (by omega) (by omega)), trivial⟩ (fun y0 y1 pk1 f1 h1 h2 h3 => by cases h1; obtain ⟨fs1, g1, e1⟩ := h2; obtain rfl := hx_inj g24 g1; cases ((hx_kf m17 (hx_mem hG0 (by decide)) g2 g24).trans e_pk).symm.trans e1; obtain rfl := hx_injr ((hx_kr m17 (hx_mem hG_pk (by decide))).trans g_f0) h3; omega) (fun w41 hw42 hf43 m44 u49 => ?_)
        have hs45 := ty_same_tr hs18 m44
        obtain ⟨⟨fs50, gA51, eA52⟩, fL53, gL54, hL55, hS56, hC57⟩ := u49 _ _ _ _ _ _ _ rfl ⟨_, g24, ((hx_kf m17 (hx_mem hG0 (by decide)) g2 g24).trans e_pk)⟩ ((hx_kr m17 (hx_mem hG_pk (by decide))).trans g_f0) ⟨_, g24, iA29⟩ gc33 ⟨_, g24, iB32⟩
        refine ax_go 1 (y := (51, [some (.ref o)], [.ref o], w41, 0, 0)) rfl trivial ?_
        refine hx_gf (l := 54) rfl rfl rfl gA51 eA52 ?_
        refine hx_k (l := 56) (m := 112) rfl rfl (by decide) (fun z58 h59 => ?_)
        refine ax_go 1 (y := (57, [some (.ref o)], [.int z58, .ref pk, .int z58, .ref pk], w41, 0, 0)) rfl trivial ?_
        have r60 := hx_rq hw42 gL54 hG_pk (s := 32) rfl
        refine hx_il (l := 58) rfl rfl gL54 (by omega) (by omega) (fun z61 h62 => ?_)
        have b63 := ((hf43.1.1 _ _ hG_pk gL54).1 z58.toInt.toNat (by omega)).2.2.2.2.2.2.1 (by omega)
        rw [← h62] at b63
        rw [show z58.toInt.toNat = 112 by omega, hL55 112 (by omega)] at h62
        replace h62 := congrArg Int32.toInt h62
        refine hx_k (l := 59) (m := 1) rfl rfl (by decide) (fun z64 h65 => ?_)
        refine hx_add (l := 60) rfl rfl (fun z66 h67 => ?_)
        replace h67 := h67 (by omega) (by omega)
        refine hx_is (s := 32) (l := 61) rfl rfl rfl hw42 hG_pk gL54 (by omega) (by omega) (hx_sg1 (fun _ _ _ => ⟨by omega, by omega⟩) (hx_sg1 (fun _ _ _ => ⟨by omega, by omega⟩) (hx_sg1 (fun _ _ _ => ⟨by omega, by omega⟩) (hx_sg1 (fun _ _ _ => ⟨by omega, by omega⟩) (hx_sg1 (fun _ _ _ => ⟨by omega, by omega⟩) (hx_sg1 (fun _ _ _ => ⟨by omega, by omega⟩) (hx_sg1 (fun _ _ _ => ⟨by omega, by omega⟩) (hx_sg1 (fun _ _ _ => ⟨by omega, by omega⟩) (hx_sg1 (fun _ _ _ => ⟨by omega, by omega⟩) hx_sg0))))))))) (fun w68 f69 g70 e71 o72 n73 hw74 n75 => ?_)
        have hs76 := ty_same_tr hs45 (n75 fz (hx_ok hfz (by decide)))
        have kp78 := hf43.1.1 _ _ hG_pk gL54
        have i112 : z58.toInt.toNat = 112 := by omega
        have l112 := congrArg Int32.toInt (hL55 112 (by omega))
        have t112 : (fL53 112).toInt.toNat = z38.toInt.toNat := by omega
        have hgw : gwf fL53 (fL53 112).toInt.toNat := by rw [t112]; exact gw_gwf (pa_lay (by omega) hS56 hC57 (hGW0 ▸ hGW))
        have hf77 : F9 G F w68 := ⟨FM_k hf43.1 hG_pk g70 n73 (KP_law kp78 (fun j hj => o72 j (by omega)) (by rw [← i112, e71, i112]; omega) (by rw [← i112, e71]; omega) hgw), hF _ _ (n75 prM (by decide)) hf43.2⟩
        refine ax_go 2 (y := (63, [some (.ref o)], [.ref o, .ref o], w68, 0, 0)) rfl trivial ?_
        refine hx_gf (l := 66) rfl rfl rfl ((n73 _ (hx_ne hG0 hG_pk (by decide))).trans gA51) eA52 ?_
        refine hx_k (l := 68) (m := 112) rfl rfl (by decide) (fun z80 h81 => ?_)
        have r82 := hx_rq hw74 g70 hG_pk (s := 32) rfl
        refine hx_il (l := 69) rfl rfl g70 (by omega) (by omega) (fun z83 h84 => ?_)
        have b85 := ((hf77.1.1 _ _ hG_pk g70).1 z80.toInt.toNat (by omega)).2.2.2.2.2.2.1 (by omega)
        rw [← h84] at b85
        refine hx_k (l := 70) (m := 1) rfl rfl (by decide) (fun z86 h87 => ?_)
        refine hx_sub (l := 71) rfl rfl (fun z88 h89 => ?_)
        replace h89 := h89 (by omega) (by omega)
        refine hx_ci (l := 74) (as := [.ref o, .int z88]) rfl rfl (hx_iv (j := 125) (n := 1) (o := o) (r := []) rfl rfl ((n73 _ (hx_ne hG0 hG_pk (by decide))).trans gA51) rfl) (cc_X9_good_0 (fz := fz) hFF  (fun q hq => (by decide +kernel : ∀ q ∈ fb_X9_law, q ∈ fr_X9_good_0) q (hfz q hq)) (d + 73)) hw74 hf77 ⟨(hx_tr (G := G) (s := 30) (b := 0) hG0 (by decide)), (ck_top_ok (G := G) z88), trivial⟩ (fun w90 z95 hw91 hf92 m93 a96 b97 u98 => ?_)
        have hs94 := ty_same_tr hs76 m93
        exact ax_ret rfl rfl trivial ⟨some (.int z95), _, rfl, hw91, hf92, hs94, (ck_top_ok (G := G) z95), trivial⟩
      · -- 32
        refine ax_go 1 (y := (33, [some (.ref o)], [.ref o], w14, 0, 0)) rfl trivial ?_
        refine hx_k (l := 35) (m := (-6)) rfl rfl (by decide) (fun z99 h100 => ?_)
        refine hx_ci (l := 38) (as := [.ref o, .int z99]) rfl rfl (hx_iv (j := 124) (n := 1) (o := o) (r := []) rfl rfl g24 rfl) (cc_X9_refuses_0 (fz := fz) hFF  (fun q hq => (by decide +kernel : ∀ q ∈ fb_X9_law, q ∈ fr_X9_refuses_0) q (hfz q hq)) (d + 73)) hw15 hf16 ⟨(hx_tr (G := G) (s := 30) (b := 0) hG0 (by decide)), (hx_ti (G := G) (lo := (-6)) (hi := (-1)) (by omega) (by omega)), trivial⟩ (fun w101 z106 hw102 hf103 m104 a107 b108 u109 => ?_)
        have hs105 := ty_same_tr hs18 m104
        exact ax_ret rfl rfl trivial ⟨some (.int z106), _, rfl, hw102, hf103, hs105, (ck_top_ok (G := G) z106), trivial⟩
    · -- 12
      refine ax_go 1 (y := (13, [some (.ref o)], [.ref o], w, 0, 0)) rfl trivial ?_
      refine hx_k (l := 14) (m := 0) rfl rfl (by decide) (fun z110 h111 => ?_)
      refine hx_pf (q := (0, 0, 0, 0, 0, 400)) (s := 30) (l := 17) (v := .int z110) rfl rfl rfl (by decide) rfl rfl rfl hw hG0 g2 trivial (hx_ti (G := G) (lo := 0) (hi := 400) (by omega) (by omega)) (fun w112 fs113 g114 e115 o116 n117 hw118 n119 => ?_)
      have hs120 := ty_same_tr (ty_same_rf w) (n119 fz (hx_ok hfz (by decide)))
      have hf121 := hFF _ _ (n119 pr_ (by decide)) hf
      refine ax_go 1 (y := (18, [some (.ref o)], [.ref o], w112, 0, 0)) rfl trivial ?_
      refine hx_k (l := 20) (m := (-5)) rfl rfl (by decide) (fun z122 h123 => ?_)
      refine hx_ci (l := 23) (as := [.ref o, .int z122]) rfl rfl (hx_iv (j := 124) (n := 1) (o := o) (r := []) rfl rfl g114 rfl) (cc_X9_refuses_0 (fz := fz) hFF  (fun q hq => (by decide +kernel : ∀ q ∈ fb_X9_law, q ∈ fr_X9_refuses_0) q (hfz q hq)) (d + 73)) hw118 hf121 ⟨(hx_tr (G := G) (s := 30) (b := 0) hG0 (by decide)), (hx_ti (G := G) (lo := (-6)) (hi := (-1)) (by omega) (by omega)), trivial⟩ (fun w124 z129 hw125 hf126 m127 a130 b131 u132 => ?_)
      have hs128 := ty_same_tr hs120 m127
      exact ax_ret rfl rfl trivial ⟨some (.int z129), _, rfl, hw125, hf126, hs128, (ck_top_ok (G := G) z129), trivial⟩
