/-! both sides of the calls together: what is asked -/
theorem mv_sym (a b : Int → Int) : ∀ k : Nat, mv_bits a b k = mv_bits b a k
  | 0 => rfl
  | k + 1 => by
    have ih := mv_sym a b k
    show im_or (mv_bits a b k) (if a k = b k then 0 else im_shl 1 k) = im_or (mv_bits b a k) (if b k = a k then 0 else im_shl 1 k)
    rw [ih]
    by_cases e : a (k : Int) = b (k : Int)
    · rw [if_pos e, if_pos e.symm]
    · rw [if_neg e, if_neg (fun z => e z.symm)]
theorem dd_0 (lw : Option im_T) : ∀ (n : Nat) {z : dd_S}, LOK z.1 z.2.1 → (dd lw n z).1 0 = z.1 0
  | 0, z, _ => rfl
  | n + 1, z, h => by
    show (if z.2.1 7 0 < 999 ∧ 0 < z.1 0 then dd lw n (dd_1 lw z) else z).1 0 = z.1 0
    by_cases c : z.2.1 7 0 < 999 ∧ 0 < z.1 0
    · rw [if_pos c]
      have hok := (dd_act_ok lw (dr_next (dr_next z.2.2.1) % 3) (dr_next z.2.2.1 % z.1 0) h).1
      refine (dd_0 lw n (z := dd_1 lw z) (LOK_day hok).1).trans ?_
      show (pl_day _ _).2.1 0 = z.1 0
      rw [pl_day_0 hok]
      unfold dd_act
      split
      · rfl
      split
      · rfl
      · exact (pl_send_75 _ _ _ _).2.2
    · rw [if_neg c]
theorem jn_dr {v : Nat → Int} {R : Nat → Int → Int} {yk : Int} {yv : Nat → Int} {yR : Nat → Int → Int} (h : RYS v R yk yv yR) {p a : Int} : dn_ans v (R 23) p a = cw_dr yk yv yR p a := by
  unfold dn_ans cw_dr
  rcases h with ⟨z1, z2⟩ | ⟨z1, z2, z3, z4, z5⟩
  · rw [if_pos z2, if_pos z1]
  · rw [if_neg (show ¬ v 49 = -1 by omega), if_neg (show ¬ yk = 0 by omega), z2]
    by_cases c2 : a = 2
    · subst c2
      rw [if_neg (show ¬ (2 : Int) = 0 by decide), if_neg (show ¬ (2 : Int) = 1 by decide), if_pos rfl, if_pos rfl]
      exact z4
    · rw [if_neg c2, if_neg c2]
      by_cases cp : 0 ≤ p ∧ p < yv 0
      · obtain ⟨u1, u2⟩ := z5 p cp.1 (by omega)
        have cq : 0 ≤ p ∧ p ≤ yv 0 - 1 := by omega
        rw [if_pos cp]
        simp only [if_pos cq, u1, u2]
      · have cq : ¬ (0 ≤ p ∧ p ≤ yv 0 - 1) := by omega
        rw [if_neg cp]
        simp only [if_neg cq]
        split
        · rfl
        · split <;> rfl
section Jn
variable {ro : ab_R} {T : List im_T} {xv : Nat → Int} {lv : Nat → Int} {L : Nat → Int → Int} {g : Int → Option Nat} {ik : Int → Int} {yv : Nat → Int} {yR : Nat → Int → Int} {yg : Int → Option Nat} {f k : Int} {rw_ : Int → Int} {cv : Nat → Int} {cb : Int} {cs cwd : Int → Int} {rv rcv : Nat → Int} {rb rcb : Int} {rs_ rcs rcwd rrw : Int → Int} {pv pcv : Nat → Int} {pb : Int} {ps pwd : Int → Int} {sv : Nat → Int} {sR : Nat → Int → Int} {sg : Int → Option Nat} {PR : Nat → Int → Int} {wq : Nat → Int} {wA : Int → Int} {wu : Int × Int × Int} {wc wk : Int → Int} {fr : Int → Int} {av : Nat → Int} {aR : Nat → Int → Int} {ag : Int → Option Nat} {bv : Nat → Int} {bR : Nat → Int → Int} {bg : Int → Option Nat} {v : Nat → Int} {R : Nat → Int → Int}
set_option maxHeartbeats 4000000 in
theorem jn_once (hT : T.length < 1000) (h : INV T (xv, (lv, L, g), ik, (yv, yR, yg), (f, k, rw_), (cv, cb, cs, cwd), (rv, rb, rs_, (rcv, rcb, rcs, rcwd), rrw), (pv, (pcv, pb, ps, pwd), (sv, sR, sg), PR), (wq, wA, wu, wc, wk), fr, (av, aR, ag), (bv, bR, bg)) v R) {p : Int} (h_p : im_ir p) : JN ro T 98 209 [.inl p] (xv, (lv, L, g), ik, (yv, yR, yg), (f, k, rw_), (cv, cb, cs, cwd), (rv, rb, rs_, (rcv, rcb, rcs, rcwd), rrw), (pv, (pcv, pb, ps, pwd), (sv, sR, sg), PR), (wq, wA, wu, wc, wk), fr, (av, aR, ag), (bv, bR, bg)) v R := by
  obtain ⟨Q, Qa, Qb, hS, ⟨hg, hl⟩, ⟨⟨hga, hla, hoa⟩, hgb, hlb, hob⟩, hik, hy, ⟨hcb, hcs, hcwd⟩, hrk, ⟨hpk, hpb⟩, h3, hkb, hcb2⟩ := h
  have hB := hS.1
  have hlo := hB.2.1
  have hday := hB.2.2.1
  have hlr := LWS_lwr hlo hl
  have ht := RST_TLS hS
  have h30 : v 30 = 0 := hS.2.1
  have hps := hS.2.2.2.2.1
  have hf16 := hps.1.1
  have hk16 := hps.1.2.1
  have e34 : v 34 = k := hps.1.2.2
  have h13 : v 13 = xv 0 := hS.2.2.1.2.1
  have hb0 : 0 ≤ xv 0 ∧ xv 0 ≤ 400 := hS.2.2.1.2.2
  have hc : im_ct ro T 110 98 [mr 0, .inl p] (CW (xv, (lv, L, g), ik, (yv, yR, yg), (f, k, rw_), (cv, cb, cs, cwd), (rv, rb, rs_, (rcv, rcb, rcs, rcwd), rrw), (pv, (pcv, pb, ps, pwd), (sv, sR, sg), PR), (wq, wA, wu, wc, wk), fr, (av, aR, ag), (bv, bR, bg))) _ := cw_once (by decide) hT hlo hday hg hlr hpk hpb h_p
  obtain ⟨r1, w1, hc, hq⟩ := im_ct_ex hc
  have hm : im_ct ro T 110 209 [mr 0, .inl p] (MW v R) _ := m_once (by decide) hT ht h_p
  obtain ⟨r2, w2, hm, hn⟩ := im_ct_ex hm
  obtain ⟨rfl, pv1, pcv1, pb1, ps1, pwd1, sv1, sR1, sg1, PR1, hk1, hpb1, rfl⟩ := hq
  obtain ⟨rfl, hQB⟩ := hn
  obtain ⟨v1, R1, rfl, hS1⟩ := RST_QB hS hQB
  rw [h30] at hm
  exact JN_mk hc hm rfl rfl rfl rfl rfl ⟨Q, Qa, Qb, hS1, ⟨hg, hl⟩, ⟨⟨hga, hla, hoa⟩, hgb, hlb, hob⟩, hik, hy, ⟨hcb, hcs, hcwd⟩, hrk, ⟨hk1, hpb1⟩, h3, hkb, hcb2⟩
set_option maxHeartbeats 4000000 in
theorem jn_fewest (hT : T.length < 1000) (h : INV T (xv, (lv, L, g), ik, (yv, yR, yg), (f, k, rw_), (cv, cb, cs, cwd), (rv, rb, rs_, (rcv, rcb, rcs, rcwd), rrw), (pv, (pcv, pb, ps, pwd), (sv, sR, sg), PR), (wq, wA, wu, wc, wk), fr, (av, aR, ag), (bv, bR, bg)) v R) {a : Int} (h_a : im_ir a) : JN ro T 99 211 [.inl a] (xv, (lv, L, g), ik, (yv, yR, yg), (f, k, rw_), (cv, cb, cs, cwd), (rv, rb, rs_, (rcv, rcb, rcs, rcwd), rrw), (pv, (pcv, pb, ps, pwd), (sv, sR, sg), PR), (wq, wA, wu, wc, wk), fr, (av, aR, ag), (bv, bR, bg)) v R := by
  obtain ⟨Q, Qa, Qb, hS, ⟨hg, hl⟩, ⟨⟨hga, hla, hoa⟩, hgb, hlb, hob⟩, hik, hy, ⟨hcb, hcs, hcwd⟩, hrk, ⟨hpk, hpb⟩, h3, hkb, hcb2⟩ := h
  have hB := hS.1
  have hlo := hB.2.1
  have hday := hB.2.2.1
  have hlr := LWS_lwr hlo hl
  have ht := RST_TLS hS
  have h30 : v 30 = 0 := hS.2.1
  have hps := hS.2.2.2.2.1
  have hf16 := hps.1.1
  have hk16 := hps.1.2.1
  have e34 : v 34 = k := hps.1.2.2
  have h13 : v 13 = xv 0 := hS.2.2.1.2.1
  have hb0 : 0 ≤ xv 0 ∧ xv 0 ≤ 400 := hS.2.2.1.2.2
  have hc : im_ct ro T 110 99 [mr 0, .inl a] (CW (xv, (lv, L, g), ik, (yv, yR, yg), (f, k, rw_), (cv, cb, cs, cwd), (rv, rb, rs_, (rcv, rcb, rcs, rcwd), rrw), (pv, (pcv, pb, ps, pwd), (sv, sR, sg), PR), (wq, wA, wu, wc, wk), fr, (av, aR, ag), (bv, bR, bg))) _ := cw_fewest (by decide) hT hlo hday hg hlr hpk hpb h_a
  obtain ⟨r1, w1, hc, hq⟩ := im_ct_ex hc
  have hm : im_ct ro T 110 211 [mr 0, .inl a] (MW v R) _ := m_fewest (by decide) hT ht h30 h_a
  obtain ⟨r2, w2, hm, hn⟩ := im_ct_ex hm
  obtain ⟨rfl, pv1, pcv1, pb1, ps1, pwd1, sv1, sR1, sg1, PR1, hk1, hpb1, rfl⟩ := hq
  obtain ⟨rfl, hQB⟩ := hn
  obtain ⟨v1, R1, rfl, hS1⟩ := RST_QB hS hQB
  exact JN_mk hc hm rfl rfl rfl rfl rfl ⟨Q, Qa, Qb, hS1, ⟨hg, hl⟩, ⟨⟨hga, hla, hoa⟩, hgb, hlb, hob⟩, hik, hy, ⟨hcb, hcs, hcwd⟩, hrk, ⟨hk1, hpb1⟩, h3, hkb, hcb2⟩
set_option maxHeartbeats 4000000 in
theorem jn_best (hT : T.length < 1000) (h : INV T (xv, (lv, L, g), ik, (yv, yR, yg), (f, k, rw_), (cv, cb, cs, cwd), (rv, rb, rs_, (rcv, rcb, rcs, rcwd), rrw), (pv, (pcv, pb, ps, pwd), (sv, sR, sg), PR), (wq, wA, wu, wc, wk), fr, (av, aR, ag), (bv, bR, bg)) v R) {a : Int} (h_a : im_ir a) : JN ro T 102 217 [.inl a] (xv, (lv, L, g), ik, (yv, yR, yg), (f, k, rw_), (cv, cb, cs, cwd), (rv, rb, rs_, (rcv, rcb, rcs, rcwd), rrw), (pv, (pcv, pb, ps, pwd), (sv, sR, sg), PR), (wq, wA, wu, wc, wk), fr, (av, aR, ag), (bv, bR, bg)) v R := by
  obtain ⟨Q, Qa, Qb, hS, ⟨hg, hl⟩, ⟨⟨hga, hla, hoa⟩, hgb, hlb, hob⟩, hik, hy, ⟨hcb, hcs, hcwd⟩, hrk, ⟨hpk, hpb⟩, h3, hkb, hcb2⟩ := h
  have hB := hS.1
  have hlo := hB.2.1
  have hday := hB.2.2.1
  have hlr := LWS_lwr hlo hl
  have ht := RST_TLS hS
  have h30 : v 30 = 0 := hS.2.1
  have hps := hS.2.2.2.2.1
  have hf16 := hps.1.1
  have hk16 := hps.1.2.1
  have e34 : v 34 = k := hps.1.2.2
  have h13 : v 13 = xv 0 := hS.2.2.1.2.1
  have hb0 : 0 ≤ xv 0 ∧ xv 0 ≤ 400 := hS.2.2.1.2.2
  have hc : im_ct ro T 110 102 [mr 0, .inl a] (CW (xv, (lv, L, g), ik, (yv, yR, yg), (f, k, rw_), (cv, cb, cs, cwd), (rv, rb, rs_, (rcv, rcb, rcs, rcwd), rrw), (pv, (pcv, pb, ps, pwd), (sv, sR, sg), PR), (wq, wA, wu, wc, wk), fr, (av, aR, ag), (bv, bR, bg))) _ := cw_best (by decide) hT hlo hday hg hlr hpk hpb h_a
  obtain ⟨r1, w1, hc, hq⟩ := im_ct_ex hc
  have hm : im_ct ro T 110 217 [mr 0, .inl a] (MW v R) _ := m_best (by decide) hT ht h30 h_a
  obtain ⟨r2, w2, hm, hn⟩ := im_ct_ex hm
  obtain ⟨rfl, pv1, pcv1, pb1, ps1, pwd1, sv1, sR1, sg1, PR1, hk1, hpb1, rfl⟩ := hq
  obtain ⟨rfl, hQB⟩ := hn
  obtain ⟨v1, R1, rfl, hS1⟩ := RST_QB hS hQB
  have eb := be_fb (lwf lv Q) hlo 97
  rw [eb] at hm
  exact JN_mk hc hm rfl rfl rfl rfl rfl ⟨Q, Qa, Qb, hS1, ⟨hg, hl⟩, ⟨⟨hga, hla, hoa⟩, hgb, hlb, hob⟩, hik, hy, ⟨hcb, hcs, hcwd⟩, hrk, ⟨hk1, hpb1⟩, h3, hkb, hcb2⟩
set_option maxHeartbeats 4000000 in
theorem jn_hidden (hT : T.length < 1000) (h : INV T (xv, (lv, L, g), ik, (yv, yR, yg), (f, k, rw_), (cv, cb, cs, cwd), (rv, rb, rs_, (rcv, rcb, rcs, rcwd), rrw), (pv, (pcv, pb, ps, pwd), (sv, sR, sg), PR), (wq, wA, wu, wc, wk), fr, (av, aR, ag), (bv, bR, bg)) v R) {i : Int} (h_i : im_ir i) : JN ro T 105 222 [.inl i] (xv, (lv, L, g), ik, (yv, yR, yg), (f, k, rw_), (cv, cb, cs, cwd), (rv, rb, rs_, (rcv, rcb, rcs, rcwd), rrw), (pv, (pcv, pb, ps, pwd), (sv, sR, sg), PR), (wq, wA, wu, wc, wk), fr, (av, aR, ag), (bv, bR, bg)) v R := by
  obtain ⟨Q, Qa, Qb, hS, ⟨hg, hl⟩, ⟨⟨hga, hla, hoa⟩, hgb, hlb, hob⟩, hik, hy, ⟨hcb, hcs, hcwd⟩, hrk, ⟨hpk, hpb⟩, h3, hkb, hcb2⟩ := h
  have hB := hS.1
  have hlo := hB.2.1
  have hday := hB.2.2.1
  have hlr := LWS_lwr hlo hl
  have ht := RST_TLS hS
  have h30 : v 30 = 0 := hS.2.1
  have hps := hS.2.2.2.2.1
  have hf16 := hps.1.1
  have hk16 := hps.1.2.1
  have e34 : v 34 = k := hps.1.2.2
  have h13 : v 13 = xv 0 := hS.2.2.1.2.1
  have hb0 : 0 ≤ xv 0 ∧ xv 0 ≤ 400 := hS.2.2.1.2.2
  have hc : im_ct ro T 110 105 [mr 0, .inl i] (CW (xv, (lv, L, g), ik, (yv, yR, yg), (f, k, rw_), (cv, cb, cs, cwd), (rv, rb, rs_, (rcv, rcb, rcs, rcwd), rrw), (pv, (pcv, pb, ps, pwd), (sv, sR, sg), PR), (wq, wA, wu, wc, wk), fr, (av, aR, ag), (bv, bR, bg))) _ := cw_hidden (by decide) hT hlo hday hg hlr hpk hpb h_i
  obtain ⟨r1, w1, hc, hq⟩ := im_ct_ex hc
  have hm : im_ct ro T 110 222 [mr 0, .inl i] (MW v R) _ := m_hidden (by decide) hT ht h30 h_i
  obtain ⟨r2, w2, hm, hn⟩ := im_ct_ex hm
  obtain ⟨rfl, pv1, pcv1, pb1, ps1, pwd1, sv1, sR1, sg1, PR1, hk1, hpb1, rfl⟩ := hq
  obtain ⟨rfl, hQB⟩ := hn
  obtain ⟨v1, R1, rfl, hS1⟩ := RST_QB hS hQB
  exact JN_mk hc hm rfl rfl rfl rfl rfl ⟨Q, Qa, Qb, hS1, ⟨hg, hl⟩, ⟨⟨hga, hla, hoa⟩, hgb, hlb, hob⟩, hik, hy, ⟨hcb, hcs, hcwd⟩, hrk, ⟨hk1, hpb1⟩, h3, hkb, hcb2⟩
theorem jn_lt {v : Nat → Int} {R : Nat → Int → Int} (h : LOK v R) (a : Int) : lt_ans v R a = (if 0 ≤ a ∧ a ≤ v 0 then (if lt_ok (R 7 1) v R (v 0).toNat = true then (if a = 0 then (lt_r (R 7 1) v R (v 0).toNat).2.2 else (lt_r (R 7 1) v R (v 0).toNat).2.1 (a - 1)) else -1000) else -1000) := by
  have hpar := lk_par h
  have es := lt_same h
  have e1 := lt_sum h (v 0).toNat (by omega)
  have e2 := lt_dnm h (v 0).toNat (by omega)
  unfold lt_ans
  rw [← es, e1]
  by_cases c : 0 ≤ a ∧ a ≤ v 0
  · rw [if_pos c]
    by_cases c2 : lt_ok (R 7 1) v R (v 0).toNat = true
    · rw [if_pos c2, c2, if_neg (show ¬ (a < 0 ∨ v 0 < a ∨ true = false) by rintro (z | z | z); omega; omega; cases z)]
      by_cases c0 : a = 0
      · rw [if_pos c0, if_pos c0, sd_su, show v 0 - (((v 0).toNat : Nat) : Int) = 0 by omega]
      · rw [if_neg c0, if_neg c0, e2 _ (by omega) (by omega)]
    · rw [if_neg c2, if_pos (Or.inr (Or.inr (by cases hz : lt_ok (R 7 1) v R (v 0).toNat with | true => exact absurd hz c2 | false => rfl)))]
  · rw [if_neg c]
    by_cases c2 : a < 0
    · rw [if_pos (Or.inl c2)]
    · rw [if_pos (Or.inr (Or.inl (by omega)))]
set_option maxHeartbeats 4000000 in
theorem jn_lent (hT : T.length < 1000) (h : INV T (xv, (lv, L, g), ik, (yv, yR, yg), (f, k, rw_), (cv, cb, cs, cwd), (rv, rb, rs_, (rcv, rcb, rcs, rcwd), rrw), (pv, (pcv, pb, ps, pwd), (sv, sR, sg), PR), (wq, wA, wu, wc, wk), fr, (av, aR, ag), (bv, bR, bg)) v R) {a : Int} (h_a : im_ir a) : JN ro T 100 214 [.inl a] (xv, (lv, L, g), ik, (yv, yR, yg), (f, k, rw_), (cv, cb, cs, cwd), (rv, rb, rs_, (rcv, rcb, rcs, rcwd), rrw), (pv, (pcv, pb, ps, pwd), (sv, sR, sg), PR), (wq, wA, wu, wc, wk), fr, (av, aR, ag), (bv, bR, bg)) v R := by
  obtain ⟨Q, Qa, Qb, hS, ⟨hg, hl⟩, ⟨⟨hga, hla, hoa⟩, hgb, hlb, hob⟩, hik, hy, ⟨hcb, hcs, hcwd⟩, hrk, ⟨hpk, hpb⟩, h3, hkb, hcb2⟩ := h
  have hB := hS.1
  have hlo := hB.2.1
  have hday := hB.2.2.1
  have hlr := LWS_lwr hlo hl
  have ht := RST_TLS hS
  have h30 : v 30 = 0 := hS.2.1
  have hps := hS.2.2.2.2.1
  have hf16 := hps.1.1
  have hk16 := hps.1.2.1
  have e34 : v 34 = k := hps.1.2.2
  have h13 : v 13 = xv 0 := hS.2.2.1.2.1
  have hb0 : 0 ≤ xv 0 ∧ xv 0 ≤ 400 := hS.2.2.1.2.2
  have hc : im_ct ro T 110 100 [mr 0, .inl a] (CW (xv, (lv, L, g), ik, (yv, yR, yg), (f, k, rw_), (cv, cb, cs, cwd), (rv, rb, rs_, (rcv, rcb, rcs, rcwd), rrw), (pv, (pcv, pb, ps, pwd), (sv, sR, sg), PR), (wq, wA, wu, wc, wk), fr, (av, aR, ag), (bv, bR, bg))) _ := cw_lent (by decide) hT hlo hday hg hlr hpk hpb h_a
  obtain ⟨r1, w1, hc, hq⟩ := im_ct_ex hc
  have hm : im_ct ro T 110 214 [mr 0, .inl a] (MW v R) _ := m_lent (by decide) hT hB.1 hlo h_a
  obtain ⟨r2, w2, hm, hn⟩ := im_ct_ex hm
  obtain ⟨rfl, pv1, pcv1, pb1, ps1, pwd1, sv1, sR1, sg1, PR1, hk1, hpb1, rfl⟩ := hq
  obtain ⟨rfl, R1, rfl, hR1⟩ := hn
  have hS1 := RST_q hS (v' := v) (R' := R1) (fun i _ _ => by rw [hR1 2 (by decide)]) (fun _ _ => rfl) (fun j hj => hR1 j (by simp only [List.mem_cons, List.not_mem_nil, or_false] at hj; omega))
  exact JN_mk hc hm rfl rfl rfl rfl (jn_lt hlo a) ⟨Q, Qa, Qb, hS1, ⟨hg, hl⟩, ⟨⟨hga, hla, hoa⟩, hgb, hlb, hob⟩, hik, hy, ⟨hcb, hcs, hcwd⟩, hrk, ⟨hk1, hpb1⟩, h3, hkb, hcb2⟩
theorem jn_lo {lw : Option im_T} {v : Nat → Int} {R : Nat → Int → Int} (h : LOK v R) {pv : Nat → Int} {PR : Nat → Int → Int} (hI : FHI lw v R (v 0).toNat pv PR) {a : Int} (ha : 0 ≤ a ∧ a ≤ 1) : lo_ans lw v R a = (if pv 0 = 0 then -1 else if a = 0 then (fl (PR 3) (pv 0).toNat (v 0).toNat).1 else (fl (PR 3) (pv 0).toNat (v 0).toNat).2) := by
  have hpar := lk_par h
  obtain ⟨h0, h1, h2⟩ := hI
  have hn : (pv 0).toNat = (fh lw v R (v 0).toNat).1 := by omega
  have hfb := fh_b lw v R (v 0).toNat
  unfold lo_ans
  by_cases c : (fh lw v R (v 0).toNat).1 = 0
  · rw [if_pos (Or.inr (Or.inr c)), if_pos (by omega)]
  · rw [if_neg (show ¬ (a < 0 ∨ 1 < a ∨ (fh lw v R (v 0).toNat).1 = 0) by omega), if_neg (show ¬ pv 0 = 0 by omega), hn]
    have hl := lo_fl (lw := lw) h (G := PR 3) (fun x i a1 a2 a3 a4 => h2 x i a1 (by omega) a3 a4) (v 0).toNat (by omega)
    rw [hl.1 (by omega)]
set_option maxHeartbeats 4000000 in
theorem jn_look (hT : T.length < 1000) (h : INV T (xv, (lv, L, g), ik, (yv, yR, yg), (f, k, rw_), (cv, cb, cs, cwd), (rv, rb, rs_, (rcv, rcb, rcs, rcwd), rrw), (pv, (pcv, pb, ps, pwd), (sv, sR, sg), PR), (wq, wA, wu, wc, wk), fr, (av, aR, ag), (bv, bR, bg)) v R) {a : Int} (h_a : im_ir a) : JN ro T 106 224 [.inl a] (xv, (lv, L, g), ik, (yv, yR, yg), (f, k, rw_), (cv, cb, cs, cwd), (rv, rb, rs_, (rcv, rcb, rcs, rcwd), rrw), (pv, (pcv, pb, ps, pwd), (sv, sR, sg), PR), (wq, wA, wu, wc, wk), fr, (av, aR, ag), (bv, bR, bg)) v R := by
  obtain ⟨Q, Qa, Qb, hS, ⟨hg, hl⟩, ⟨⟨hga, hla, hoa⟩, hgb, hlb, hob⟩, hik, hy, ⟨hcb, hcs, hcwd⟩, hrk, ⟨hpk, hpb⟩, h3, hkb, hcb2⟩ := h
  have hB := hS.1
  have hlo := hB.2.1
  have hday := hB.2.2.1
  have hlr := LWS_lwr hlo hl
  have ht := RST_TLS hS
  have h30 : v 30 = 0 := hS.2.1
  have hps := hS.2.2.2.2.1
  have hf16 := hps.1.1
  have hk16 := hps.1.2.1
  have e34 : v 34 = k := hps.1.2.2
  have h13 : v 13 = xv 0 := hS.2.2.1.2.1
  have hb0 : 0 ≤ xv 0 ∧ xv 0 ≤ 400 := hS.2.2.1.2.2
  have hc : im_ct ro T 110 106 [mr 0, .inl a] (CW (xv, (lv, L, g), ik, (yv, yR, yg), (f, k, rw_), (cv, cb, cs, cwd), (rv, rb, rs_, (rcv, rcb, rcs, rcwd), rrw), (pv, (pcv, pb, ps, pwd), (sv, sR, sg), PR), (wq, wA, wu, wc, wk), fr, (av, aR, ag), (bv, bR, bg))) _ := cw_look (by decide) hT hlo hday hg hlr hpk hpb h_a
  obtain ⟨r1, w1, hc, hq⟩ := im_ct_ex hc
  have hm : im_ct ro T 110 224 [mr 0, .inl a] (MW v R) _ := m_look (by decide) hT ht h30 h_a
  obtain ⟨r2, w2, hm, hn⟩ := im_ct_ex hm
  obtain ⟨z, pv1, pcv1, pb1, ps1, pwd1, sv1, sR1, sg1, PR1, rfl, hz1, hz2, hk1, hpb1, rfl⟩ := hq
  obtain ⟨rfl, v1, R1, f20, rfl, hQ, hR2⟩ := hn
  have hS1 := RST_QZ hS hQ (fun i _ => by rw [hR2])
  have hS2 := RST_q hS1 (v' := v1) (R' := pl_U R1 20 f20) (fun i _ _ => rfl) (fun _ _ => rfl) (fun j hj => by
    simp only [List.mem_cons, List.not_mem_nil, or_false] at hj
    unfold pl_U
    rw [if_neg (by omega)])
  have ez : lo_ans (lwf lv Q) lv L a = z := by
    by_cases c : 0 ≤ a ∧ a ≤ 1
    · obtain ⟨hI, hz⟩ := hz2 c
      rw [hz]
      exact jn_lo hlo hI c
    · rw [hz1 c]
      unfold lo_ans
      rw [if_pos (by omega)]
  exact JN_mk hc hm rfl rfl rfl rfl ez ⟨Q, Qa, Qb, hS2, ⟨hg, hl⟩, ⟨⟨hga, hla, hoa⟩, hgb, hlb, hob⟩, hik, hy, ⟨hcb, hcs, hcwd⟩, hrk, ⟨hk1, hpb1⟩, h3, hkb, hcb2⟩
set_option maxHeartbeats 4000000 in
theorem jn_moved (hT : T.length < 1000) (h : INV T (xv, (lv, L, g), ik, (yv, yR, yg), (f, k, rw_), (cv, cb, cs, cwd), (rv, rb, rs_, (rcv, rcb, rcs, rcwd), rrw), (pv, (pcv, pb, ps, pwd), (sv, sR, sg), PR), (wq, wA, wu, wc, wk), fr, (av, aR, ag), (bv, bR, bg)) v R) {p : Int} (h_p : im_ir p) : JN ro T 107 225 [.inl p] (xv, (lv, L, g), ik, (yv, yR, yg), (f, k, rw_), (cv, cb, cs, cwd), (rv, rb, rs_, (rcv, rcb, rcs, rcwd), rrw), (pv, (pcv, pb, ps, pwd), (sv, sR, sg), PR), (wq, wA, wu, wc, wk), fr, (av, aR, ag), (bv, bR, bg)) v R := by
  obtain ⟨Q, Qa, Qb, hS, ⟨hg, hl⟩, ⟨⟨hga, hla, hoa⟩, hgb, hlb, hob⟩, hik, hy, ⟨hcb, hcs, hcwd⟩, hrk, ⟨hpk, hpb⟩, h3, hkb, hcb2⟩ := h
  have hB := hS.1
  have hlo := hB.2.1
  have hday := hB.2.2.1
  have hlr := LWS_lwr hlo hl
  have ht := RST_TLS hS
  have h30 : v 30 = 0 := hS.2.1
  have hps := hS.2.2.2.2.1
  have hf16 := hps.1.1
  have hk16 := hps.1.2.1
  have e34 : v 34 = k := hps.1.2.2
  have h13 : v 13 = xv 0 := hS.2.2.1.2.1
  have hb0 : 0 ≤ xv 0 ∧ xv 0 ≤ 400 := hS.2.2.1.2.2
  have hpar := lk_par hlo
  have hc : im_ct ro T 110 107 [mr 0, .inl p] (CW (xv, (lv, L, g), ik, (yv, yR, yg), (f, k, rw_), (cv, cb, cs, cwd), (rv, rb, rs_, (rcv, rcb, rcs, rcwd), rrw), (pv, (pcv, pb, ps, pwd), (sv, sR, sg), PR), (wq, wA, wu, wc, wk), fr, (av, aR, ag), (bv, bR, bg))) _ := cw_moved (by decide) hT hlo hday hg hlr hpk hpb h_p
  obtain ⟨r1, w1, hc, hq⟩ := im_ct_ex hc
  have hm : im_ct ro T 110 225 [mr 0, .inl p] (MW v R) _ := m_moved (by decide) hT ht h_p
  obtain ⟨r2, w2, hm, hn⟩ := im_ct_ex hm
  obtain ⟨rfl, pv1, pcv1, pb1, ps1, pwd1, sv1, sR1, sg1, PR1, hk1, hpb1, rfl⟩ := hq
  obtain ⟨rfl, W, hQB⟩ := hn
  obtain ⟨v1, R1, rfl, hS1⟩ := RST_QB (RST_21 hS W) hQB
  have ec : 0 ≤ p → p < lv 0 → R 2 (0 + p) = L 2 p := fun a b => (hB.1.2.2.1 p a (by omega)).2.2.1
  have hcn := lk_cnt hlo p
  have ez : (if (0 ≤ p ∧ p < lv 0) ∧ ¬ R 2 (0 + p) = 999 then mv_bits (on_all (lwf lv Q) (v 30) (-1) 0 lv L).2.2.2 (on_all (lwf lv Q) (v 30) p 1 lv L).2.2.2 (lv 0).toNat else -1) = (if (0 ≤ p ∧ p < lv 0) ∧ L 2 p < 999 then mv_bits (on_all (lwf lv Q) 0 p 1 lv L).2.2.2 (on_all (lwf lv Q) 0 (-1) 0 lv L).2.2.2 (lv 0).toNat else -1) := by
    rw [h30]
    by_cases c : (0 ≤ p ∧ p < lv 0) ∧ L 2 p < 999
    · rw [if_pos c, if_pos ⟨c.1, by rw [ec c.1.1 c.1.2]; omega⟩, mv_sym]
    · rw [if_neg c, if_neg (fun z => c ⟨z.1, by have := ec z.1.1 z.1.2; omega⟩)]
  exact JN_mk hc hm rfl rfl rfl rfl ez ⟨Q, Qa, Qb, hS1, ⟨hg, hl⟩, ⟨⟨hga, hla, hoa⟩, hgb, hlb, hob⟩, hik, hy, ⟨hcb, hcs, hcwd⟩, hrk, ⟨hk1, hpb1⟩, h3, hkb, hcb2⟩
set_option maxHeartbeats 4000000 in
theorem jn_flow (hT : T.length < 1000) (h : INV T (xv, (lv, L, g), ik, (yv, yR, yg), (f, k, rw_), (cv, cb, cs, cwd), (rv, rb, rs_, (rcv, rcb, rcs, rcwd), rrw), (pv, (pcv, pb, ps, pwd), (sv, sR, sg), PR), (wq, wA, wu, wc, wk), fr, (av, aR, ag), (bv, bR, bg)) v R) {n : Int} (h_n : im_ir n) {a : Int} (h_a : im_ir a) : JN ro T 108 227 [.inl n, .inl a] (xv, (lv, L, g), ik, (yv, yR, yg), (f, k, rw_), (cv, cb, cs, cwd), (rv, rb, rs_, (rcv, rcb, rcs, rcwd), rrw), (pv, (pcv, pb, ps, pwd), (sv, sR, sg), PR), (wq, wA, wu, wc, wk), fr, (av, aR, ag), (bv, bR, bg)) v R := by
  obtain ⟨Q, Qa, Qb, hS, ⟨hg, hl⟩, ⟨⟨hga, hla, hoa⟩, hgb, hlb, hob⟩, hik, hy, ⟨hcb, hcs, hcwd⟩, hrk, ⟨hpk, hpb⟩, h3, hkb, hcb2⟩ := h
  have hB := hS.1
  have hlo := hB.2.1
  have hday := hB.2.2.1
  have hlr := LWS_lwr hlo hl
  have ht := RST_TLS hS
  have h30 : v 30 = 0 := hS.2.1
  have hps := hS.2.2.2.2.1
  have hf16 := hps.1.1
  have hk16 := hps.1.2.1
  have e34 : v 34 = k := hps.1.2.2
  have h13 : v 13 = xv 0 := hS.2.2.1.2.1
  have hb0 : 0 ≤ xv 0 ∧ xv 0 ≤ 400 := hS.2.2.1.2.2
  have hc : im_ct ro T 110 108 [mr 0, .inl n, .inl a] (CW (xv, (lv, L, g), ik, (yv, yR, yg), (f, k, rw_), (cv, cb, cs, cwd), (rv, rb, rs_, (rcv, rcb, rcs, rcwd), rrw), (pv, (pcv, pb, ps, pwd), (sv, sR, sg), PR), (wq, wA, wu, wc, wk), fr, (av, aR, ag), (bv, bR, bg))) _ := cw_flow (by decide) hT hlo hday hg hlr hpk hpb h_n h_a
  obtain ⟨r1, w1, hc, hq⟩ := im_ct_ex hc
  have hm : im_ct ro T 110 227 [mr 0, .inl n, .inl a] (MW v R) _ := m_flow (by decide) hT ht hday h30 h_n h_a
  obtain ⟨r2, w2, hm, hn⟩ := im_ct_ex hm
  obtain ⟨rfl, pv1, pcv1, pb1, ps1, pwd1, sv1, sR1, sg1, PR1, hk1, hpb1, rfl⟩ := hq
  obtain ⟨rfl, v1, R1, rfl, hQ, hR2⟩ := hn
  have hS1 := RST_QZ hS hQ hR2
  have e7 : pl_R sR L 7 0 ≤ 999 := by
    rw [(pl_R_q sR L 0 (by decide) (by decide)).2.2.2.2.1]
    exact hday
  have ef := (LQ_ff (lw := lwf lv Q) (LQ_take sv lv sR L) (LOK_take hpk.2.2.2.1 hlo) e7 n.toNat).2
  rw [ef] at hc
  exact JN_mk hc hm rfl rfl rfl rfl rfl ⟨Q, Qa, Qb, hS1, ⟨hg, hl⟩, ⟨⟨hga, hla, hoa⟩, hgb, hlb, hob⟩, hik, hy, ⟨hcb, hcs, hcwd⟩, hrk, ⟨hk1, hpb1⟩, h3, hkb, hcb2⟩
set_option maxHeartbeats 4000000 in
theorem jn_of (hT : T.length < 1000) (h : INV T (xv, (lv, L, g), ik, (yv, yR, yg), (f, k, rw_), (cv, cb, cs, cwd), (rv, rb, rs_, (rcv, rcb, rcs, rcwd), rrw), (pv, (pcv, pb, ps, pwd), (sv, sR, sg), PR), (wq, wA, wu, wc, wk), fr, (av, aR, ag), (bv, bR, bg)) v R) {p : Int} (h_p : im_ir p) {a : Int} (h_a : im_ir a) : JN ro T 81 138 [.inl p, .inl a] (xv, (lv, L, g), ik, (yv, yR, yg), (f, k, rw_), (cv, cb, cs, cwd), (rv, rb, rs_, (rcv, rcb, rcs, rcwd), rrw), (pv, (pcv, pb, ps, pwd), (sv, sR, sg), PR), (wq, wA, wu, wc, wk), fr, (av, aR, ag), (bv, bR, bg)) v R := by
  obtain ⟨Q, Qa, Qb, hS, ⟨hg, hl⟩, ⟨⟨hga, hla, hoa⟩, hgb, hlb, hob⟩, hik, hy, ⟨hcb, hcs, hcwd⟩, hrk, ⟨hpk, hpb⟩, h3, hkb, hcb2⟩ := h
  have hB := hS.1
  have hlo := hB.2.1
  have hday := hB.2.2.1
  have hlr := LWS_lwr hlo hl
  have ht := RST_TLS hS
  have h30 : v 30 = 0 := hS.2.1
  have hps := hS.2.2.2.2.1
  have hf16 := hps.1.1
  have hk16 := hps.1.2.1
  have e34 : v 34 = k := hps.1.2.2
  have h13 : v 13 = xv 0 := hS.2.2.1.2.1
  have hb0 : 0 ≤ xv 0 ∧ xv 0 ≤ 400 := hS.2.2.1.2.2
  have hc : im_ct ro T 110 81 [mr 0, .inl p, .inl a] (CW (xv, (lv, L, g), ik, (yv, yR, yg), (f, k, rw_), (cv, cb, cs, cwd), (rv, rb, rs_, (rcv, rcb, rcs, rcwd), rrw), (pv, (pcv, pb, ps, pwd), (sv, sR, sg), PR), (wq, wA, wu, wc, wk), fr, (av, aR, ag), (bv, bR, bg))) _ := cw_of (by decide) hT hlo (by omega) hg hlr hcb hcs hcwd hpk.1 hpk.2.1 hpk.2.2.1 h_p h_a
  obtain ⟨r1, w1, hc, hq⟩ := im_ct_ex hc
  have hm : im_ct ro T 110 138 [mr 0, .inl p, .inl a] (MW v R) _ := m_of (by decide) hT ht h30 h_p h_a
  obtain ⟨r2, w2, hm, hn⟩ := im_ct_ex hm
  obtain ⟨rfl, cv1, cb1, cs1, cwd1, pcv1, pb1, ps1, pwd1, ⟨g1, g2, g3⟩, ⟨g4, g5, g6⟩, rfl⟩ := hq
  obtain ⟨rfl, v1, R1, rfl, hQ, hR2⟩ := hn
  have hS1 := RST_QZ hS hQ (fun i _ => by rw [hR2])
  exact JN_mk hc hm rfl rfl rfl rfl rfl ⟨Q, Qa, Qb, hS1, ⟨hg, hl⟩, ⟨⟨hga, hla, hoa⟩, hgb, hlb, hob⟩, hik, hy, ⟨g1, g2, g3⟩, hrk, ⟨PKO_cu hpk g4 g5 g6, hpb⟩, h3, hkb, hcb2⟩
set_option maxHeartbeats 4000000 in
theorem jn_odds (hT : T.length < 1000) (h : INV T (xv, (lv, L, g), ik, (yv, yR, yg), (f, k, rw_), (cv, cb, cs, cwd), (rv, rb, rs_, (rcv, rcb, rcs, rcwd), rrw), (pv, (pcv, pb, ps, pwd), (sv, sR, sg), PR), (wq, wA, wu, wc, wk), fr, (av, aR, ag), (bv, bR, bg)) v R) {p : Int} (h_p : im_ir p) {n : Int} (h_n : im_ir n) {ov : Int} (h_ov : im_ir ov) : JNL ro T 101 216 [.inl p, .inl n, .inl ov] (xv, (lv, L, g), ik, (yv, yR, yg), (f, k, rw_), (cv, cb, cs, cwd), (rv, rb, rs_, (rcv, rcb, rcs, rcwd), rrw), (pv, (pcv, pb, ps, pwd), (sv, sR, sg), PR), (wq, wA, wu, wc, wk), fr, (av, aR, ag), (bv, bR, bg)) v R := by
  obtain ⟨Q, Qa, Qb, hS, ⟨hg, hl⟩, ⟨⟨hga, hla, hoa⟩, hgb, hlb, hob⟩, hik, hy, ⟨hcb, hcs, hcwd⟩, hrk, ⟨hpk, hpb⟩, h3, hkb, hcb2⟩ := h
  have hB := hS.1
  have hlo := hB.2.1
  have hday := hB.2.2.1
  have hlr := LWS_lwr hlo hl
  have ht := RST_TLS hS
  have h30 : v 30 = 0 := hS.2.1
  have hps := hS.2.2.2.2.1
  have hf16 := hps.1.1
  have hk16 := hps.1.2.1
  have e34 : v 34 = k := hps.1.2.2
  have h13 : v 13 = xv 0 := hS.2.2.1.2.1
  have hb0 : 0 ≤ xv 0 ∧ xv 0 ≤ 400 := hS.2.2.1.2.2
  have hc : im_ct ro T 110 101 [mr 0, .inl p, .inl n, .inl ov] (CW (xv, (lv, L, g), ik, (yv, yR, yg), (f, k, rw_), (cv, cb, cs, cwd), (rv, rb, rs_, (rcv, rcb, rcs, rcwd), rrw), (pv, (pcv, pb, ps, pwd), (sv, sR, sg), PR), (wq, wA, wu, wc, wk), fr, (av, aR, ag), (bv, bR, bg))) _ := cw_odds (by decide) hT hlo hday hg hlr hpk hpb h_p h_n h_ov
  obtain ⟨r1, w1, hc, hq⟩ := im_ct_ex hc
  have hm : im_ct ro T 110 216 [mr 0, .inl p, .inl n, .inl ov] (MW v R) _ := m_odds (by decide) hT ht h30 h_p h_n h_ov
  obtain ⟨r2, w2, hm, hn⟩ := im_ct_ex hm
  obtain ⟨z, rfl, pv1, pcv1, pb1, ps1, pwd1, sv1, sR1, sg1, PR1, hk1, hpb1, rfl⟩ := hq
  obtain ⟨z2, v1, R1, rfl, rfl, hv1, hR1⟩ := hn
  have hS1 := RST_q hS (v' := v1) (R' := R1) (fun i _ _ => by rw [hR1 2 (by decide) (by decide)]) (fun j hj => by
    simp only [List.mem_cons, List.not_mem_nil, or_false] at hj
    exact hv1 j (by omega) (by omega) (by omega) (by omega)) (fun j hj => by
    simp only [List.mem_cons, List.not_mem_nil, or_false] at hj
    exact hR1 j (by omega) (by omega))
  exact ⟨z, z2, _, v1, R1, hc, hm, ⟨Q, Qa, Qb, hS1, ⟨hg, hl⟩, ⟨⟨hga, hla, hoa⟩, hgb, hlb, hob⟩, hik, hy, ⟨hcb, hcs, hcwd⟩, hrk, ⟨hk1, hpb1⟩, h3, hkb, hcb2⟩⟩
set_option maxHeartbeats 4000000 in
theorem jn_years (hT : T.length < 1000) (h : INV T (xv, (lv, L, g), ik, (yv, yR, yg), (f, k, rw_), (cv, cb, cs, cwd), (rv, rb, rs_, (rcv, rcb, rcs, rcwd), rrw), (pv, (pcv, pb, ps, pwd), (sv, sR, sg), PR), (wq, wA, wu, wc, wk), fr, (av, aR, ag), (bv, bR, bg)) v R) {seed : Int} (h_seed : im_ir seed) {n : Int} (h_n : im_ir n) : JN ro T 109 236 [.inl seed, .inl n] (xv, (lv, L, g), ik, (yv, yR, yg), (f, k, rw_), (cv, cb, cs, cwd), (rv, rb, rs_, (rcv, rcb, rcs, rcwd), rrw), (pv, (pcv, pb, ps, pwd), (sv, sR, sg), PR), (wq, wA, wu, wc, wk), fr, (av, aR, ag), (bv, bR, bg)) v R := by
  obtain ⟨Q, Qa, Qb, hS, ⟨hg, hl⟩, ⟨⟨hga, hla, hoa⟩, hgb, hlb, hob⟩, hik, hy, ⟨hcb, hcs, hcwd⟩, hrk, ⟨hpk, hpb⟩, h3, hkb, hcb2⟩ := h
  have hB := hS.1
  have hlo := hB.2.1
  have hday := hB.2.2.1
  have hlr := LWS_lwr hlo hl
  have ht := RST_TLS hS
  have h30 : v 30 = 0 := hS.2.1
  have hps := hS.2.2.2.2.1
  have hf16 := hps.1.1
  have hk16 := hps.1.2.1
  have e34 : v 34 = k := hps.1.2.2
  have h13 : v 13 = xv 0 := hS.2.2.1.2.1
  have hb0 : 0 ≤ xv 0 ∧ xv 0 ≤ 400 := hS.2.2.1.2.2
  have hpar := lk_par hlo
  have hc : im_ct ro T 110 109 [mr 0, .inl seed, .inl n] (CW (xv, (lv, L, g), ik, (yv, yR, yg), (f, k, rw_), (cv, cb, cs, cwd), (rv, rb, rs_, (rcv, rcb, rcs, rcwd), rrw), (pv, (pcv, pb, ps, pwd), (sv, sR, sg), PR), (wq, wA, wu, wc, wk), fr, (av, aR, ag), (bv, bR, bg))) _ := cw_years (by decide) hT hlo hday hg hlr hpk hpb hy h_seed h_n
  obtain ⟨r1, w1, hc, hq⟩ := im_ct_ex hc
  have hm : im_ct ro T 110 236 [mr 0, .inl seed, .inl n] (MW v R) _ := m_years (by decide) hT ht hday h30 h_seed h_n
  obtain ⟨r2, w2, hm, hn⟩ := im_ct_ex hm
  obtain ⟨q1, q2, q3⟩ := hq
  rcases hn with ⟨c, rfl, rfl⟩ | ⟨c, c2, rfl, rfl⟩ | ⟨c, c2, rfl, v1, R1, rfl, hQ, hR2, g0, g49, g50, g23⟩
  · obtain ⟨rfl, rfl⟩ := q1 (by omega)
    exact JN_mk hc hm rfl rfl rfl rfl rfl ⟨Q, Qa, Qb, RST_ref hS (by decide), ⟨hg, hl⟩, ⟨⟨hga, hla, hoa⟩, hgb, hlb, hob⟩, hik, hy, ⟨hcb, hcs, hcwd⟩, hrk, ⟨hpk, hpb⟩, h3, hkb, hcb2⟩
  · obtain ⟨rfl, rfl⟩ := q2 (by omega)
    exact JN_mk hc hm rfl rfl rfl rfl rfl ⟨Q, Qa, Qb, RST_ref hS (by decide), ⟨hg, hl⟩, ⟨⟨hga, hla, hoa⟩, hgb, hlb, hob⟩, hik, hy, ⟨hcb, hcs, hcwd⟩, hrk, ⟨hpk, hpb⟩, h3, hkb, hcb2⟩
  · obtain ⟨rfl, pcv1, pb1, ps1, pwd1, ⟨g4, g5, g6⟩, rfl⟩ := q3 ⟨by omega, c2⟩
    have hok0 : LOK (pl_v yv lv) (pl_R yR L) := LOK_take hy hlo
    obtain ⟨d1, d2⟩ := LQ_dd (lw := lwf lv Q) n.toNat (z := ((pl_v yv lv, pl_R yR L, seed, 0) : dd_S)) (z' := ((lv, L, seed, 0) : dd_S)) (LQ_take yv lv yR L) rfl hok0
    have hz0 : DDI (pl_v yv lv) 0 ((pl_v yv lv, pl_R yR L, seed, 0) : dd_S) := ⟨hok0, by show pl_R yR L 7 0 ≤ 999; rw [(pl_R_q yR L 0 (by decide) (by decide)).2.2.2.2.1]; exact hday, rfl, ⟨by show (0 : Int) ≤ seed; omega, by show seed ≤ 1000003; omega⟩, Int.le_refl _, Int.le_refl _⟩
    have hDI := cw_ddb (lw := lwf lv Q) n.toNat hz0 (Int.le_refl _)
    have e0 : (dd (lwf lv Q) n.toNat ((pl_v yv lv, pl_R yR L, seed, 0) : dd_S)).1 0 = lv 0 := dd_0 (lwf lv Q) n.toNat hok0
    have h16 := lk_grp hDI.1
    have es : pl_sum ((dd (lwf lv Q) n.toNat ((lv, L, seed, 0) : dd_S)).2.1 5) ((dd (lwf lv Q) n.toNat ((lv, L, seed, 0) : dd_S)).1 1).toNat = pl_sum ((dd (lwf lv Q) n.toNat ((pl_v yv lv, pl_R yR L, seed, 0) : dd_S)).2.1 5) ((dd (lwf lv Q) n.toNat ((pl_v yv lv, pl_R yR L, seed, 0) : dd_S)).1 1).toNat := by
      rw [← d1.1 1 (by decide)]
      exact (LQ_sum d1 _ (by omega)).symm
    have t := RST_years hS (zv := (dd (lwf lv Q) n.toNat ((pl_v yv lv, pl_R yR L, seed, 0) : dd_S)).1) (zR := (dd (lwf lv Q) n.toNat ((pl_v yv lv, pl_R yR L, seed, 0) : dd_S)).2.1) (v' := v1) (R' := R1) e0 hR2 g0 g49 (g50.trans es) (fun p a b => by
      have u := g23 p a b
      have u2 := d1.2.1 p a b
      rw [u2.2.2.1, u2.2.2.2]
      exact u) (fun j hj => by
      simp only [List.mem_cons, List.not_mem_nil, or_false] at hj
      exact hQ.1 j (by omega) (by omega) (by omega) (by omega) (by omega) (by omega) (by omega) (by omega) (by omega)) (fun j hj => by
      simp only [List.mem_cons, List.not_mem_nil, or_false] at hj
      exact hQ.2 j (by omega) (by omega) (by omega) (by omega) (by omega) (by omega))
    have ez : (dd (lwf lv Q) n.toNat ((lv, L, seed, 0) : dd_S)).2.2.2 = (dd (lwf lv Q) n.toNat ((pl_v yv lv, pl_R yR L, seed, 0) : dd_S)).2.2.2 := by rw [d2]
    exact JN_mk hc hm rfl rfl rfl rfl ez ⟨Q, Qa, Qb, RST_set0 t hDI.2.2.2.2.1, ⟨hg, hl⟩, ⟨⟨hga, hla, hoa⟩, hgb, hlb, hob⟩, hik, hDI.1, ⟨hcb, hcs, hcwd⟩, hrk, ⟨PKO_cu hpk g4 g5 g6, hpb⟩, h3, hkb, hcb2⟩
set_option maxHeartbeats 4000000 in
theorem jn_drawn (hT : T.length < 1000) (h : INV T (xv, (lv, L, g), ik, (yv, yR, yg), (f, k, rw_), (cv, cb, cs, cwd), (rv, rb, rs_, (rcv, rcb, rcs, rcwd), rrw), (pv, (pcv, pb, ps, pwd), (sv, sR, sg), PR), (wq, wA, wu, wc, wk), fr, (av, aR, ag), (bv, bR, bg)) v R) {p : Int} (h_p : im_ir p) {a : Int} (h_a : im_ir a) : JN ro T 110 237 [.inl p, .inl a] (xv, (lv, L, g), ik, (yv, yR, yg), (f, k, rw_), (cv, cb, cs, cwd), (rv, rb, rs_, (rcv, rcb, rcs, rcwd), rrw), (pv, (pcv, pb, ps, pwd), (sv, sR, sg), PR), (wq, wA, wu, wc, wk), fr, (av, aR, ag), (bv, bR, bg)) v R := by
  obtain ⟨Q, Qa, Qb, hS, ⟨hg, hl⟩, ⟨⟨hga, hla, hoa⟩, hgb, hlb, hob⟩, hik, hy, ⟨hcb, hcs, hcwd⟩, hrk, ⟨hpk, hpb⟩, h3, hkb, hcb2⟩ := h
  have hB := hS.1
  have hlo := hB.2.1
  have hday := hB.2.2.1
  have hlr := LWS_lwr hlo hl
  have ht := RST_TLS hS
  have h30 : v 30 = 0 := hS.2.1
  have hps := hS.2.2.2.2.1
  have hf16 := hps.1.1
  have hk16 := hps.1.2.1
  have e34 : v 34 = k := hps.1.2.2
  have h13 : v 13 = xv 0 := hS.2.2.1.2.1
  have hb0 : 0 ≤ xv 0 ∧ xv 0 ≤ 400 := hS.2.2.1.2.2
  have hY := hS.2.2.2.2.2.2.2.2.2
  have hx5 : xv 5 = 0 ∨ xv 5 = 1 := by
    rcases hY with ⟨z, -⟩ | ⟨z, -⟩
    · exact Or.inl z
    · exact Or.inr z
  have h49 : -1 ≤ v 49 ∧ v 49 ≤ 10 := by
    rcases hY with ⟨-, z⟩ | ⟨-, z, z2, -⟩ <;> omega
  have hc : im_ct ro T 110 110 [mr 0, .inl p, .inl a] (CW (xv, (lv, L, g), ik, (yv, yR, yg), (f, k, rw_), (cv, cb, cs, cwd), (rv, rb, rs_, (rcv, rcb, rcs, rcwd), rrw), (pv, (pcv, pb, ps, pwd), (sv, sR, sg), PR), (wq, wA, wu, wc, wk), fr, (av, aR, ag), (bv, bR, bg))) _ := cw_drawn (by decide) hT hy hx5 h_p h_a
  obtain ⟨r1, w1, hc, hq⟩ := im_ct_ex hc
  have hm : im_ct ro T 110 237 [mr 0, .inl p, .inl a] (MW v R) _ := m_drawn (by decide) hT h49 h_p h_a
  obtain ⟨r2, w2, hm, hn⟩ := im_ct_ex hm
  obtain ⟨rfl, rfl⟩ := hq
  obtain ⟨rfl, rfl⟩ := hn
  exact JN_mk hc hm rfl rfl rfl rfl (jn_dr hY) ⟨Q, Qa, Qb, hS, ⟨hg, hl⟩, ⟨⟨hga, hla, hoa⟩, hgb, hlb, hob⟩, hik, hy, ⟨hcb, hcs, hcwd⟩, hrk, ⟨hpk, hpb⟩, h3, hkb, hcb2⟩
end Jn
