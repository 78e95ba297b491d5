/-! both sides of the calls together: orders, law -/
theorem pl_act_6 (lw : Option im_T) {v : Nat → Int} {R : Nat → Int → Int} (h : LOK v R) (h6 : 0 ≤ v 6 ∧ v 6 ≤ 1000000) (K a b n : Int) : 0 ≤ (pl_act lw K a b n v R).2.1 6 ∧ (pl_act lw K a b n v R).2.1 6 ≤ 1000000 := by
  have hd := (LOK_day h).2.1
  unfold pl_act
  by_cases k0 : K = 0
  · rw [if_pos k0]
    unfold pl_send
    split
    · exact h6
    split
    · exact h6
    split
    · exact h6
    split
    · exact h6
    · exact h6
  rw [if_neg k0]
  by_cases k1 : K = 1
  · rw [if_pos k1]
    split
    · omega
    · exact h6
  rw [if_neg k1]
  by_cases k2 : K = 2
  · rw [if_pos k2]
    exact h6
  · rw [if_neg k2]
    exact h6
def R6 (z : ru_S) : Prop := LOK z.1 z.2.1 ∧ 0 ≤ z.1 6 ∧ z.1 6 ≤ 1000000
theorem R6_1 {lw : Option im_T} {q : im_T} {c : Int} {z : ru_S} (h : R6 z) : R6 (ru_1 lw q c z).2 := by
  obtain ⟨h1, h6⟩ := h
  have h8 := pl_act_6 lw h1 h6 (tx_part q.2.2.1 q.2.2.2 c 0) (ru_ev lw q c 2 z).1 (ru_ev lw q c 3 z).1 1
  have h9 := LOK_act lw h1 (tx_part q.2.2.1 q.2.2.2 c 0) (ru_ev lw q c 2 z).1 (ru_ev lw q c 3 z).1 1
  unfold ru_1
  split
  · exact ⟨h1, h6⟩
  split
  · exact ⟨h1, h6⟩
  split
  · exact ⟨h9, h8⟩
  · exact ⟨h9, h8⟩
theorem R6_t {lw : Option im_T} {q : im_T} {c : Int} : ∀ (n : Nat) {z : ru_S}, R6 z → R6 (ru_t lw q c n z).2
  | 0, z, h => h
  | n + 1, z, h => by
    show R6 (if (ru_1 lw q c z).1 = true then (true, (ru_1 lw q c z).2) else ru_t lw q c n (ru_1 lw q c z).2).2
    split
    · exact R6_1 h
    · exact R6_t n (R6_1 h)
theorem R6_c {lw : Option im_T} {q : im_T} : ∀ (n : Nat) (c : Int) {z : ru_S}, R6 z → R6 (ru_c lw q n c z).2
  | 0, c, z, h => h
  | n + 1, c, z, h => by
    show R6 (if (ru_t lw q c (ru_n q c) z).1 = true then (some c, (ru_t lw q c (ru_n q c) z).2) else ru_c lw q n (c + 1) (ru_t lw q c (ru_n q c) z).2).2
    split
    · exact R6_t _ h
    · exact R6_c n (c + 1) (R6_t _ h)
section Jn
variable {ro : ab_R} {T : List im_T} {xv : Nat → Int} {lv : Nat → Int} {L : Nat → Int → Int} {g : Int → Option Nat} {ik : Int → Int} {yv : Nat → Int} {yR : Nat → Int → Int} {yg : Int → Option Nat} {f k : Int} {rw_ : Int → Int} {cv : Nat → Int} {cb : Int} {cs cwd : Int → Int} {rv rcv : Nat → Int} {rb rcb : Int} {rs_ rcs rcwd rrw : Int → Int} {pv pcv : Nat → Int} {pb : Int} {ps pwd : Int → Int} {sv : Nat → Int} {sR : Nat → Int → Int} {sg : Int → Option Nat} {PR : Nat → Int → Int} {wq : Nat → Int} {wA : Int → Int} {wu : Int × Int × Int} {wc wk : Int → Int} {fr : Int → Int} {av : Nat → Int} {aR : Nat → Int → Int} {ag : Int → Option Nat} {bv : Nat → Int} {bR : Nat → Int → Int} {bg : Int → Option Nat} {v : Nat → Int} {R : Nat → Int → Int}
set_option maxHeartbeats 8000000 in
theorem jn_orders (hT : T.length < 1000) (h : INV T (xv, (lv, L, g), ik, (yv, yR, yg), (f, k, rw_), (cv, cb, cs, cwd), (rv, rb, rs_, (rcv, rcb, rcs, rcwd), rrw), (pv, (pcv, pb, ps, pwd), (sv, sR, sg), PR), (wq, wA, wu, wc, wk), fr, (av, aR, ag), (bv, bR, bg)) v R) : JN ro T 89 229 [] (xv, (lv, L, g), ik, (yv, yR, yg), (f, k, rw_), (cv, cb, cs, cwd), (rv, rb, rs_, (rcv, rcb, rcs, rcwd), rrw), (pv, (pcv, pb, ps, pwd), (sv, sR, sg), PR), (wq, wA, wu, wc, wk), fr, (av, aR, ag), (bv, bR, bg)) v R := by
  obtain ⟨Q, Qa, Qb, hS, ⟨hg, hl⟩, ⟨⟨hga, hla, hoa⟩, hgb, hlb, hob⟩, hik, hy, ⟨hcb, hcs, hcwd⟩, hrk, ⟨hpk, hpb⟩, h3, hkb, hcb2⟩ := h
  have hB := hS.1
  have hlo := hB.2.1
  have hday := hB.2.2.1
  have hlr := LWS_lwr hlo hl
  have ht := RST_TLS hS
  have h30 : v 30 = 0 := hS.2.1
  have hps := hS.2.2.2.2.1
  have hf16 := hps.1.1
  have hk16 := hps.1.2.1
  have e34 : v 34 = k := hps.1.2.2
  have h13 : v 13 = xv 0 := hS.2.2.1.2.1
  have hb0 : 0 ≤ xv 0 ∧ xv 0 ≤ 400 := hS.2.2.1.2.2
  have hA := hS.2.2.1.1
  have hAk := TA_ok hA
  have hN9 := fun (j : Int) (hj : tk_nt wA (xv 0) ≤ j) => tk_C_end (A := wA) hb0 j hj
  have hnt := (tk_nt_b (A := wA) hb0).1
  have hlw4 := lk_law hlo
  obtain ⟨rs, hall⟩ := d_all_go (od := true) (c := tk_C wA (xv 0)) (x := tk_X wA (xv 0)) hN9 hnt.1
  have hall9 := hall
  rw [← h13] at hall9
  have hm0 : im_ct ro T 110 229 [mr 0] (MW v R) _ := m_orders (by decide) hT ht h30 hday hA hS.2.2.2.1 (by omega) hS.2.2.2.2.2.2.2.1 hps hall9
  obtain ⟨r2, w2, hm, a, v1, R1, rfl, rfl, hO, g13, g14, g0, g1, gt, g22, hends⟩ := im_ct_ex hm0
  clear hm0 hall9
  have e112 : R 2 112 = lv 4 := hB.1.1.2.2.2.2.1
  have e110 : R 2 110 = lv 0 := hB.1.1.1
  have t112 : R1 2 112 = R 2 112 := gt.1 112 (by decide) (by decide)
  have t110 : R1 2 110 = R 2 110 := gt.1 110 (by decide) (by decide)
  match rs, hall, hends, g14 with
  | .inl fq, hall, hends, g14 =>
    have ha6 : -6 ≤ a := by
      rcases hends with ⟨_, _, z, -⟩ | ⟨_, _, z, -⟩ | ⟨_, z, -⟩
      · omega
      · cases z
      · cases z
    have t := (RST_ords hS hO g13 g14 g0 g1 gt g22 ha6 (fun Cq z => by cases z) hends).1 fq rfl
    have hc : im_ct ro T 110 89 [mr 0] (CW (xv, (lv, L, g), ik, (yv, yR, yg), (f, k, rw_), (cv, cb, cs, cwd), (rv, rb, rs_, (rcv, rcb, rcs, rcwd), rrw), (pv, (pcv, pb, ps, pwd), (sv, sR, sg), PR), (wq, wA, wu, wc, wk), fr, (av, aR, ag), (bv, bR, bg))) _ := cw_ordF (by decide) hT hAk hb0 hkb hcb2 h3 hall
    obtain ⟨r1, w1, hc, rfl, q1, u1, c1, k1, p1, p2, p3, rfl⟩ := im_ct_ex hc
    have t2 := t.2
    rw [h13] at t2
    exact JN_mk hc hm rfl rfl rfl rfl t.1 ⟨Q, Qa, Qb, t2, ⟨hg, hl⟩, ⟨⟨hga, hla, hoa⟩, hgb, hlb, hob⟩, hik, hy, ⟨hcb, hcs, hcwd⟩, hrk, ⟨hpk, hpb⟩, p1, p2, p3⟩
  | .inr Cs, hall, hends, g14 =>
    have hLS := d_all_s hN9 hall
    have hCs : ∀ cl ∈ Cs, 0 ≤ cl.1 ∧ cl.1 ≤ 3 := fun cl hcl => by
      obtain ⟨n, i, l, j, l2, hd⟩ := LSc_mem Cs 0 hLS cl hcl
      exact (d_cl_ok hN9 hd).2.2.1
    have hc : im_ct ro T 110 89 [mr 0] (CW (xv, (lv, L, g), ik, (yv, yR, yg), (f, k, rw_), (cv, cb, cs, cwd), (rv, rb, rs_, (rcv, rcb, rcs, rcwd), rrw), (pv, (pcv, pb, ps, pwd), (sv, sR, sg), PR), (wq, wA, wu, wc, wk), fr, (av, aR, ag), (bv, bR, bg))) _ := cw_ordR (by decide) hT (lw := lwf lv Q) hlo hday hg hlr hpk hpb hAk hb0 hkb hcb2 h3 hf16 hk16 hrk hall hCs
    obtain ⟨r1, w1, hc, q1, u1, c1, k1, rv1, b1, s1, cv1, cb1, cs1, cwd1, rw1, ⟨p1, p2, p3⟩, ⟨hn1, hTS, hL1⟩, hrk1, hrs1, hrs2, z1, z2⟩ := im_ct_ex hc
    have h12 := hTS.2.1
    have hTRO : TRO (cw_tx u1 c1 k1) Cs := TXL_TRO hN9 hLS hL1 (q := (cw_tx u1 c1 k1)) hn1 rfl (by show u1.1 ≤ ((436 : Nat) : Int); have := hTS.1.2; omega) (by show 5 * (Cs.length : Int) ≤ ((60 : Nat) : Int); omega) (fun _ _ _ => rfl) (fun _ _ _ => rfl)
    have hlen : u1.2.1.toNat = Cs.length := by omega
    have eL : (ru_c (lwf lv Q) (cw_tx u1 c1 k1) u1.2.1.toNat 0 ((lv, L, (-1, 0), (f, k), rw_) : ru_S)) = (rn_c (lwf lv Q) Cs 0 ((lv, L, (-1, 0), (f, k), rw_) : ru_S)) := by
      rw [hlen]
      exact rn_c_ru hTRO Cs.length 0 ((lv, L, (-1, 0), (f, k), rw_) : ru_S) (by omega)
    have eS : (ru_c (lwf lv Q) (cw_tx u1 c1 k1) u1.2.1.toNat 0 ((pl_v sv lv, pl_R sR L, (-1, 0), (f, k), rw_) : ru_S)) = rn_c (lwf lv Q) Cs 0 ((pl_v sv lv, pl_R sR L, (-1, 0), (f, k), rw_) : ru_S) := by
      rw [hlen]
      exact rn_c_ru hTRO Cs.length 0 ((pl_v sv lv, pl_R sR L, (-1, 0), (f, k), rw_) : ru_S) (by omega)
    have hok0 : LOK (pl_v sv lv) (pl_R sR L) := LOK_take hpk.2.2.2.1 hlo
    have eZ : (ru_c (lwf lv Q) (cw_tx u1 c1 k1) u1.2.1.toNat 0 ((pl_v sv lv, pl_R sR L, (-1, 0), (f, k), rw_) : ru_S)).1 = (rn_c (lwf lv Q) Cs 0 ((lv, L, (-1, 0), (f, k), rw_) : ru_S)).1 := by
      rw [eS]
      exact (ZQ_c (lw := lwf lv Q) Cs 0 (z := ((pl_v sv lv, pl_R sR L, (-1, 0), (f, k), rw_) : ru_S)) (z' := ((lv, L, (-1, 0), (f, k), rw_) : ru_S)) ⟨LQ_take sv lv sR L, rfl, hok0⟩).1
    have h6 : R6 (ru_c (lwf lv Q) (cw_tx u1 c1 k1) u1.2.1.toNat 0 ((pl_v sv lv, pl_R sR L, (-1, 0), (f, k), rw_) : ru_S)).2 := R6_c _ _ ⟨hok0, hpk.2.2.2.2.1⟩
    have hPK1 : PKO pb ps pwd (ru_c (lwf lv Q) (cw_tx u1 c1 k1) u1.2.1.toNat 0 ((pl_v sv lv, pl_R sR L, (-1, 0), (f, k), rw_) : ru_S)).2.1 (ru_c (lwf lv Q) (cw_tx u1 c1 k1) u1.2.1.toNat 0 ((pl_v sv lv, pl_R sR L, (-1, 0), (f, k), rw_) : ru_S)).2.2.1 PR := ⟨hpk.1, hpk.2.1, hpk.2.2.1, hrs1.1, h6.2, hpk.2.2.2.2.2⟩
    have hrs3 := hrs2
    rw [eL] at hrs3
    have ha6 : -6 ≤ a := by
      rcases hends with ⟨_, z, -⟩ | ⟨_, _, _, _, z, -⟩ | ⟨Cq, z, _, z3, -⟩
      · cases z
      · omega
      · cases z
        have h5 := hrs3.2.2.2.2.1
        omega
    have hend0 : (rn_c (lwf lv Q) Cs 0 ((lv, L, (-1, 0), (f, k), rw_) : ru_S)).1 = none → (rn_c (lwf lv Q) Cs 0 ((lv, L, (-1, 0), (f, k), rw_) : ru_S)).2.1 0 = lv 0 ∧ (rn_c (lwf lv Q) Cs 0 ((lv, L, (-1, 0), (f, k), rw_) : ru_S)).2.1 4 = lv 4 := fun hz => by
      rcases hends with ⟨_, z, -⟩ | ⟨Cq, c, z, zc, -⟩ | ⟨Cq, z, zc, z3, z4, z5, -⟩
      · cases z
      · cases z
        rw [hz] at zc
        cases zc
      · cases z
        exact ⟨by rw [← e110, ← t110]; exact z5.1.1.symm, by rw [← e112, ← t112]; exact z5.1.2.2.2.2.1.symm⟩
    have t := (RST_ords hS hO g13 g14 g0 g1 gt g22 ha6 (fun Cq z hz => by
      cases z
      exact ⟨hrs3.1, hrs3.2.1, (hend0 hz).1⟩) hends).2 Cs rfl
    rw [h13] at t
    cases hz : (rn_c (lwf lv Q) Cs 0 ((lv, L, (-1, 0), (f, k), rw_) : ru_S)).1 with
    | some x =>
      have ex : (ru_c (lwf lv Q) (cw_tx u1 c1 k1) u1.2.1.toNat 0 ((pl_v sv lv, pl_R sR L, (-1, 0), (f, k), rw_) : ru_S)).1 = some x := eZ.trans hz
      have hx := ru_c_b _ _ _ _ ex
      obtain ⟨rfl, rfl⟩ := z1 (by rw [ex]; show ¬ x = -1; omega)
      obtain ⟨ea, t2⟩ := t.1 x hz
      have esp : sp_ (ru_c (lwf lv Q) (cw_tx u1 c1 k1) u1.2.1.toNat 0 ((pl_v sv lv, pl_R sR L, (-1, 0), (f, k), rw_) : ru_S)).1 = x := by rw [ex]; rfl
      rw [← esp] at t2
      exact JN_mk hc hm rfl rfl rfl rfl ea ⟨Q, Qa, Qb, t2, ⟨hg, hl⟩, ⟨⟨hga, hla, hoa⟩, hgb, hlb, hob⟩, hik, hy, ⟨hcb, hcs, hcwd⟩, hrk1, ⟨hPK1, hpb⟩, p1, p2, p3⟩
    | none =>
      have ex : (ru_c (lwf lv Q) (cw_tx u1 c1 k1) u1.2.1.toNat 0 ((pl_v sv lv, pl_R sR L, (-1, 0), (f, k), rw_) : ru_S)).1 = none := eZ.trans hz
      have esp : sp_ (ru_c (lwf lv Q) (cw_tx u1 c1 k1) u1.2.1.toNat 0 ((pl_v sv lv, pl_R sR L, (-1, 0), (f, k), rw_) : ru_S)).1 = -1 := by rw [ex]; rfl
      obtain ⟨rfl, rfl⟩ := z2 esp
      obtain ⟨ea, t2⟩ := t.2 hz
      have e4 := (hend0 hz).2
      have h5 := hrs2.2.2.2.2.1
      rw [← eL] at ea t2 e4
      rw [ea] at t2
      have t4 : RST wA 0 (ru_c (lwf lv Q) (cw_tx u1 c1 k1) u1.2.1.toNat 0 ((lv, L, (-1, 0), (f, k), rw_) : ru_S)).2.1 (ru_c (lwf lv Q) (cw_tx u1 c1 k1) u1.2.1.toNat 0 ((lv, L, (-1, 0), (f, k), rw_) : ru_S)).2.2.1 Q (ru_c (lwf lv Q) (cw_tx u1 c1 k1) u1.2.1.toNat 0 ((lv, L, (-1, 0), (f, k), rw_) : ru_S)).2.2.2.2.1.1 (ru_c (lwf lv Q) (cw_tx u1 c1 k1) u1.2.1.toNat 0 ((lv, L, (-1, 0), (f, k), rw_) : ru_S)).2.2.2.2.1.2 (ru_c (lwf lv Q) (cw_tx u1 c1 k1) u1.2.1.toNat 0 ((lv, L, (-1, 0), (f, k), rw_) : ru_S)).2.2.2.2.2 (cw_fr (ru_c (lwf lv Q) (cw_tx u1 c1 k1) u1.2.1.toNat 0 ((lv, L, (-1, 0), (f, k), rw_) : ru_S)).2.2.2.1.2 fr) (if (ru_c (lwf lv Q) (cw_tx u1 c1 k1) u1.2.1.toNat 0 ((lv, L, (-1, 0), (f, k), rw_) : ru_S)).2.2.2.1.2 < 0 then (ru_c (lwf lv Q) (cw_tx u1 c1 k1) u1.2.1.toNat 0 ((lv, L, (-1, 0), (f, k), rw_) : ru_S)).2.2.2.1.2 else 0) (-1) (sp_ (ru_c (lwf lv Q) (cw_tx u1 c1 k1) u1.2.1.toNat 0 ((pl_v sv lv, pl_R sR L, (-1, 0), (f, k), rw_) : ru_S)).1) (xv 15) ik (av, aR, Qa) (bv, bR, Qb) (xv 5) yv yR v1 R1 := by
        rw [esp]
        exact t2
      exact JN_mk hc hm rfl rfl rfl rfl ea ⟨Q, Qa, Qb, t4, ⟨hg, LWS_v hl e4⟩, ⟨⟨hga, hla, hoa⟩, hgb, hlb, hob⟩, hik, hy, ⟨hcb, hcs, hcwd⟩, hrk1, ⟨hPK1, hpb⟩, p1, p2, p3⟩
/-- a law made on both sides: a text comes to be -/
def JNW (ro : ab_R) (T : List im_T) (X : cw_X) (v : Nat → Int) (R : Nat → Int → Int) : Prop := JN ro T 88 169 [] X v R ∨ ∃ (z : Int) (X' : cw_X) (v' : Nat → Int) (R' : Nat → Int → Int) (q : im_T) (ms : Nat), ms ≤ 501 ∧ ab_Ev ro ab_codes 110 88 (im_k 95 [mr 0]) (im_w 95 T (CW X)) ((some (.inl z)).map (im_v 95), im_w 95 (T ++ [q]) (CW X'), 3 * 1, ms) ∧ im_ct ro (T ++ [q]) 110 169 [mr 0] (MW v R) (fun r w => r = some (.inl z) ∧ w = MW v' R') ∧ INV (T ++ [q]) X' v' R'
set_option maxHeartbeats 8000000 in
theorem jn_law (hT : T.length < 1000) (hT9 : T.length + 1 < 1000) (h : INV T (xv, (lv, L, g), ik, (yv, yR, yg), (f, k, rw_), (cv, cb, cs, cwd), (rv, rb, rs_, (rcv, rcb, rcs, rcwd), rrw), (pv, (pcv, pb, ps, pwd), (sv, sR, sg), PR), (wq, wA, wu, wc, wk), fr, (av, aR, ag), (bv, bR, bg)) v R) : JNW ro T (xv, (lv, L, g), ik, (yv, yR, yg), (f, k, rw_), (cv, cb, cs, cwd), (rv, rb, rs_, (rcv, rcb, rcs, rcwd), rrw), (pv, (pcv, pb, ps, pwd), (sv, sR, sg), PR), (wq, wA, wu, wc, wk), fr, (av, aR, ag), (bv, bR, bg)) v R := by
  obtain ⟨Q, Qa, Qb, hS, ⟨hg, hl⟩, ⟨⟨hga, hla, hoa⟩, hgb, hlb, hob⟩, hik, hy, ⟨hcb, hcs, hcwd⟩, hrk, ⟨hpk, hpb⟩, h3, hkb, hcb2⟩ := h
  have hB := hS.1
  have hlo := hB.2.1
  have hday := hB.2.2.1
  have hlr := LWS_lwr hlo hl
  have ht := RST_TLS hS
  have h30 : v 30 = 0 := hS.2.1
  have hps := hS.2.2.2.2.1
  have hf16 := hps.1.1
  have hk16 := hps.1.2.1
  have e34 : v 34 = k := hps.1.2.2
  have h13 : v 13 = xv 0 := hS.2.2.1.2.1
  have hb0 : 0 ≤ xv 0 ∧ xv 0 ≤ 400 := hS.2.2.1.2.2
  have hA := hS.2.2.1.1
  have hAk := TA_ok hA
  have hN9 := fun (j : Int) (hj : tk_nt wA (xv 0) ≤ j) => tk_C_end (A := wA) hb0 j hj
  have hnt := (tk_nt_b (A := wA) hb0).1
  have hlw4 := lk_law hlo
  have e112 : R 2 112 = lv 4 := hB.1.1.2.2.2.2.1
  obtain ⟨rs, hall⟩ := d_all_go (od := false) (c := tk_C wA (xv 0)) (x := tk_X wA (xv 0)) hN9 hnt.1
  have hall9 := hall
  rw [← h13] at hall9
  have hnt9 : tk_nt wA (v 13) = tk_nt wA (xv 0) := by rw [h13]
  by_cases c4 : lv 4 = 6
  · refine Or.inl ?_
    have hc : im_ct ro T 110 88 [mr 0] (CW (xv, (lv, L, g), ik, (yv, yR, yg), (f, k, rw_), (cv, cb, cs, cwd), (rv, rb, rs_, (rcv, rcb, rcs, rcwd), rrw), (pv, (pcv, pb, ps, pwd), (sv, sR, sg), PR), (wq, wA, wu, wc, wk), fr, (av, aR, ag), (bv, bR, bg))) _ := cw_law5 (by decide) hT c4
    obtain ⟨r1, w1, hc, rfl, rfl⟩ := im_ct_ex hc
    have hm : im_ct ro T 110 169 [mr 0] (MW v R) _ := r_law (by decide) hT hA hS.2.2.2.1 (by omega) (by omega) hall9
    obtain ⟨r2, w2, hm, t, l, c9, c10, c11, rfl, rfl, -⟩ := im_ct_ex hm
    rw [km_law_5 (by omega)] at hm
    exact JN_mk hc hm rfl rfl rfl rfl rfl ⟨Q, Qa, Qb, RST_ref (RST_end hS (n := 0) (by omega)) (by decide), ⟨hg, hl⟩, ⟨⟨hga, hla, hoa⟩, hgb, hlb, hob⟩, hik, hy, ⟨hcb, hcs, hcwd⟩, hrk, ⟨hpk, hpb⟩, h3, hkb, hcb2⟩
  · match rs, hall, hall9 with
    | .inl fq, hall, hall9 =>
      refine Or.inl ?_
      have hc : im_ct ro T 110 88 [mr 0] (CW (xv, (lv, L, g), ik, (yv, yR, yg), (f, k, rw_), (cv, cb, cs, cwd), (rv, rb, rs_, (rcv, rcb, rcs, rcwd), rrw), (pv, (pcv, pb, ps, pwd), (sv, sR, sg), PR), (wq, wA, wu, wc, wk), fr, (av, aR, ag), (bv, bR, bg))) _ := cw_lawF (by decide) hT hAk hb0 hkb hcb2 h3 (by omega) hall
      obtain ⟨r1, w1, hc, rfl, q1, u1, c1, k1, p1, p2, p3, rfl⟩ := im_ct_ex hc
      have hm : im_ct ro T 110 169 [mr 0] (MW v R) _ := r_law (by decide) hT hA hS.2.2.2.1 (by omega) (by omega) hall9
      obtain ⟨r2, w2, hm, t, l, c9, c10, c11, rfl, rfl, -⟩ := im_ct_ex hm
      rw [km_law_6 (by omega)] at hm
      have hx := RFR_x (R := R) (x := -6) (by decide) hS.2.2.2.2.2.1
      rw [if_pos (by decide)] at hx
      have tt := RST_law hS (v' := pl_U (VRs v false (tk_nt wA (v 13)) t l (tk_Q wA (v 13) fq)) 0 (-6)) (R' := kp_ref (-6) (R3 R c9 c10 c11)) (lv' := lv) (Q' := Q) hB rfl rfl (fl' := tk_Q wA (xv 0) fq) (by show tk_Q wA (v 13) fq = _; rw [h13]) rfl hx (fun j hj => by simp only [List.mem_cons, List.not_mem_nil, or_false] at hj; rcases hj with rfl | rfl | rfl | rfl | rfl | rfl <;> rfl) (fun j hj => by simp only [List.mem_cons, List.not_mem_nil, or_false] at hj; rcases hj with rfl | rfl | rfl | rfl | rfl | rfl | rfl <;> rfl)
      exact JN_mk hc hm rfl rfl rfl rfl rfl ⟨Q, Qa, Qb, tt, ⟨hg, hl⟩, ⟨⟨hga, hla, hoa⟩, hgb, hlb, hob⟩, hik, hy, ⟨hcb, hcs, hcwd⟩, hrk, ⟨hpk, hpb⟩, p1, p2, p3⟩
    | .inr Cs, hall, hall9 =>
      refine Or.inr ?_
      obtain ⟨o9, hE, q1, u1, c1, k1, ms, rfl, hms, ⟨p1, p2, p3⟩, hn1, hTS, hL1⟩ := cw_lawN (ro := ro) (d := 110) (T := T) (xv := xv) (v := lv) (R := L) (g := g) (ik := ik) (y := (yv, yR, yg)) (f := f) (k := k) (rw_ := rw_) (cv := cv) (cb := cb) (cs := cs) (cwd := cwd) (U := (rv, rb, rs_, (rcv, rcb, rcs, rcwd), rrw)) (P := (pv, (pcv, pb, ps, pwd), (sv, sR, sg), PR)) (fr := fr) (I0 := (av, aR, ag)) (I1 := (bv, bR, bg)) (wq := wq) (wu := wu) (by decide) hT hT9 hAk hb0 hkb hcb2 h3 (by omega) hall
      have hT1 : (T ++ [cw_nt u1 c1 k1]).length < 1000 := by rw [List.length_append]; exact hT9
      have hm : im_ct ro (T ++ [cw_nt u1 c1 k1]) 110 169 [mr 0] (MW v R) _ := r_law (by decide) hT1 hA hS.2.2.2.1 (by omega) (by omega) hall9
      obtain ⟨r2, w2, hm, t, l, c9, c10, c11, rfl, rfl, hTK⟩ := im_ct_ex hm
      have hTK := hTK (by omega)
      rw [km_law_0 (by omega)] at hm
      have hLS := d_all_s hN9 hall
      have h12 := hTS.2.1
      have h11 := hTS.1
      have hTRL : TRL false (cw_nt u1 c1 k1) Cs := TXL_TRL hLS hL1 (q := cw_nt u1 c1 k1) hn1 (by show u1.1 ≤ ((u1.1.toNat : Nat) : Int); omega) (by show 5 * (Cs.length : Int) ≤ (((u1.2.1 * 5).toNat : Nat) : Int); omega) (fun i q1 q2 => if_pos q2) (fun i q1 q2 => if_pos (by omega))
      have hKB := KB_law hAk hb0 (c9 := c9) (c10 := c10) (fun j a b => by
        have z := hTK j a (by rw [hnt9]; omega)
        rw [h13] at z
        exact ⟨z.1, z.2.1⟩) hB (by omega) hall hTRL
      rw [h13, e112] at hm
      have tt := RST_law hS (v' := pl_U (VRs v false (tk_nt wA (xv 0)) t l (-1)) 0 0) (R' := pl_U (R3 R c9 c10 c11) 2 (im_up (kl_ (lv 4) (tk_nt wA (xv 0)) c9 c10 (R 2) (tk_nt wA (xv 0)).toNat) 112 (lv 4 + 1))) (lv' := pl_U lv 4 (lv 4 + 1)) (Q' := im_up Q (lv 4) (cw_nt u1 c1 k1)) hKB rfl rfl (fl' := -1) rfl rfl hS.2.2.2.2.2.1 (fun j hj => by simp only [List.mem_cons, List.not_mem_nil, or_false] at hj; rcases hj with rfl | rfl | rfl | rfl | rfl | rfl <;> rfl) (fun j hj => by simp only [List.mem_cons, List.not_mem_nil, or_false] at hj; rcases hj with rfl | rfl | rfl | rfl | rfl | rfl | rfl <;> rfl)
      have hok := cw_nt_ok hTS p2
      refine ⟨lv 4, _, _, _, _, ms, hms, hE, hm, ?_⟩
      exact ⟨_, Qa, Qb, (RST_set0 tt (by omega)), ⟨GV_new hg _ _, LWS_new hl hok⟩, ⟨⟨GV_T hga _, fun z => LWS_T (hla z) _, hoa⟩, GV_T hgb _, fun z => LWS_T (hlb z) _, hob⟩, hik, hy, ⟨hcb, hcs, hcwd⟩, hrk, ⟨hpk, hpb⟩, p1, p2, p3⟩
end Jn
