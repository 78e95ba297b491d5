/-! both sides of the calls together: acts, undo, images, the tape -/
theorem jn_no (lw : Option im_T) (K a b n : Int) {v : Nat → Int} {R : Nat → Int → Int} (h : LOK v R) (hz : (pl_act lw K a b n v R).1 < 0) : (pl_act lw K a b n v R).2 = (v, R) := by
  have hd := (LOK_day h).2.2.2
  unfold pl_act at hz ⊢
  by_cases k0 : K = 0
  · rw [if_pos k0] at hz ⊢
    unfold pl_send at hz ⊢
    split
    · rfl
    split
    · rfl
    split
    · rfl
    split
    · rfl
    · exfalso
      rename_i c1 c2 c3 c4
      rw [if_neg c1, if_neg c2, if_neg c3, if_neg c4] at hz
      have b1 := as_over_b lw a 0 R
      have b2 := as_stay_b lw a 0 R
      try dsimp only at hz
      omega
  rw [if_neg k0] at hz ⊢
  by_cases k1 : K = 1
  · rw [if_pos k1] at hz ⊢
    split at hz
    · exfalso
      try dsimp only at hz
      omega
    · rename_i c
      rw [if_neg c]
  rw [if_neg k1] at hz ⊢
  by_cases k2 : K = 2
  · rw [if_pos k2] at hz ⊢
    unfold pl_lend at hz ⊢
    split
    · rfl
    split
    · rfl
    split
    · rfl
    · exfalso
      rename_i c1 c2 c3
      rw [if_neg c1, if_neg c2, if_neg c3] at hz
      have ca := lk_cnt h a
      have cb := lk_cnt h b
      try dsimp only at hz
      unfold im_up at hz
      split at hz
      · split at hz <;> omega
      · rw [if_pos rfl] at hz
        omega
  · rw [if_neg k2] at hz ⊢
    unfold pl_growBy at hz ⊢
    split
    · rfl
    split
    · rfl
    split
    · rfl
    · exfalso
      rename_i c1 c2 c3
      rw [if_neg c1, if_neg c2, if_neg c3] at hz
      try dsimp only at hz
      omega
section Jn
variable {ro : ab_R} {T : List im_T} {xv : Nat → Int} {lv : Nat → Int} {L : Nat → Int → Int} {g : Int → Option Nat} {ik : Int → Int} {yv : Nat → Int} {yR : Nat → Int → Int} {yg : Int → Option Nat} {f k : Int} {rw_ : Int → Int} {cv : Nat → Int} {cb : Int} {cs cwd : Int → Int} {rv rcv : Nat → Int} {rb rcb : Int} {rs_ rcs rcwd rrw : Int → Int} {pv pcv : Nat → Int} {pb : Int} {ps pwd : Int → Int} {sv : Nat → Int} {sR : Nat → Int → Int} {sg : Int → Option Nat} {PR : Nat → Int → Int} {wq : Nat → Int} {wA : Int → Int} {wu : Int × Int × Int} {wc wk : Int → Int} {fr : Int → Int} {av : Nat → Int} {aR : Nat → Int → Int} {ag : Int → Option Nat} {bv : Nat → Int} {bR : Nat → Int → Int} {bg : Int → Option Nat} {v : Nat → Int} {R : Nat → Int → Int}
set_option maxHeartbeats 4000000 in
theorem jn_reckon (hT : T.length < 1000) (h : INV T (xv, (lv, L, g), ik, (yv, yR, yg), (f, k, rw_), (cv, cb, cs, cwd), (rv, rb, rs_, (rcv, rcb, rcs, rcwd), rrw), (pv, (pcv, pb, ps, pwd), (sv, sR, sg), PR), (wq, wA, wu, wc, wk), fr, (av, aR, ag), (bv, bR, bg)) v R) {p : Int} (h_p : im_ir p) : JN ro T 93 203 [.inl p] (xv, (lv, L, g), ik, (yv, yR, yg), (f, k, rw_), (cv, cb, cs, cwd), (rv, rb, rs_, (rcv, rcb, rcs, rcwd), rrw), (pv, (pcv, pb, ps, pwd), (sv, sR, sg), PR), (wq, wA, wu, wc, wk), fr, (av, aR, ag), (bv, bR, bg)) v R := by
  obtain ⟨Q, Qa, Qb, hS, ⟨hg, hl⟩, ⟨⟨hga, hla, hoa⟩, hgb, hlb, hob⟩, hik, hy, ⟨hcb, hcs, hcwd⟩, hrk, ⟨hpk, hpb⟩, h3, hkb, hcb2⟩ := h
  have hB := hS.1
  have hlo := hB.2.1
  have hday := hB.2.2.1
  have hlr := LWS_lwr hlo hl
  have ht := RST_TLS hS
  have h30 : v 30 = 0 := hS.2.1
  have hps := hS.2.2.2.2.1
  have hf16 := hps.1.1
  have hk16 := hps.1.2.1
  have e34 : v 34 = k := hps.1.2.2
  have h13 : v 13 = xv 0 := hS.2.2.1.2.1
  have hb0 : 0 ≤ xv 0 ∧ xv 0 ≤ 400 := hS.2.2.1.2.2
  have hc : im_ct ro T 110 93 [mr 0, .inl p] (CW (xv, (lv, L, g), ik, (yv, yR, yg), (f, k, rw_), (cv, cb, cs, cwd), (rv, rb, rs_, (rcv, rcb, rcs, rcwd), rrw), (pv, (pcv, pb, ps, pwd), (sv, sR, sg), PR), (wq, wA, wu, wc, wk), fr, (av, aR, ag), (bv, bR, bg))) _ := cw_reckon (by decide) hT (lw := lwf lv Q) hlo (by omega) hlr hcb hcs hcwd hf16 hk16 h_p
  obtain ⟨r1, w1, hc, hq⟩ := im_ct_ex hc
  have hm : im_ct ro T 110 203 [mr 0, .inl p] (MW v R) _ := m_reckon (by decide) hT ht (by omega) h30 h_p
  obtain ⟨r2, w2, hm, hn⟩ := im_ct_ex hm
  obtain ⟨rfl, cv1, cb1, cs1, cwd1, g1, g2, g3, q1, q2⟩ := hq
  obtain ⟨rfl, v1, R1, rfl, hP, e0, e1, hcs3⟩ := hn
  have hbd := cw_send_bd (lwf lv Q) hlo 0 p 0 0
  have hv1 : ∀ j ∈ [6, 13, 14, 30, 41, 49, 50], v1 j = v j := fun j hj => by
    simp only [List.mem_cons, List.not_mem_nil, or_false] at hj
    exact hP.1 j (by omega) (by omega) (by omega) (by omega) (by omega) (by omega) (by omega)
  have hR1 : ∀ j ∈ [3, 4, 6, 7, 22, 23], R1 j = R j := fun j hj => by
    simp only [List.mem_cons, List.not_mem_nil, or_false] at hj
    exact hP.2 j (by omega) (by omega) (by omega) (by omega)
  obtain ⟨t1, t2⟩ := RST_act hS rfl (K := 0) (a := p) (b := 0) (n := 0) (by decide) hbd.1 (fun z => jn_no _ _ _ _ _ hlo z) hv1 hR1 e0 e1 hcs3
  have e4 : (pl_act (lwf lv Q) 0 p 0 0 lv L).2.1 4 = lv 4 := by
    rcases hcs3 with ⟨hz, -⟩ | ⟨hz, -, -, hr, hfr⟩
    · rw [jn_no _ _ _ _ _ hlo hz]
    · have e112 : R 2 112 = lv 4 := hB.1.1.2.2.2.2.1
      have e1123 : R1 2 112 = (pl_act (lwf lv Q) 0 p 0 0 lv L).2.1 4 := hr.1.2.2.2.2.1
      rw [← e112, ← e1123]
      exact hfr 112 (by decide)
  by_cases c : (pl_act (lwf lv Q) 0 p 0 0 lv L).1 < 0
  · obtain rfl := q1 c
    exact JN_mk hc hm rfl rfl rfl rfl rfl ⟨Q, Qa, Qb, t1 c, ⟨hg, LWS_v hl e4⟩, ⟨⟨hga, hla, hoa⟩, hgb, hlb, hob⟩, hik, hy, ⟨g1, g2, g3⟩, hrk, ⟨hpk, hpb⟩, h3, hkb, hcb2⟩
  · obtain rfl := q2 (by omega)
    exact JN_mk hc hm rfl rfl rfl rfl rfl ⟨Q, Qa, Qb, t2 (by omega), ⟨hg, LWS_v hl e4⟩, ⟨⟨hga, hla, hoa⟩, hgb, hlb, hob⟩, hik, hy, ⟨g1, g2, g3⟩, hrk, ⟨hpk, hpb⟩, h3, hkb, hcb2⟩
set_option maxHeartbeats 4000000 in
theorem jn_pass (hT : T.length < 1000) (h : INV T (xv, (lv, L, g), ik, (yv, yR, yg), (f, k, rw_), (cv, cb, cs, cwd), (rv, rb, rs_, (rcv, rcb, rcs, rcwd), rrw), (pv, (pcv, pb, ps, pwd), (sv, sR, sg), PR), (wq, wA, wu, wc, wk), fr, (av, aR, ag), (bv, bR, bg)) v R) : JN ro T 94 204 [] (xv, (lv, L, g), ik, (yv, yR, yg), (f, k, rw_), (cv, cb, cs, cwd), (rv, rb, rs_, (rcv, rcb, rcs, rcwd), rrw), (pv, (pcv, pb, ps, pwd), (sv, sR, sg), PR), (wq, wA, wu, wc, wk), fr, (av, aR, ag), (bv, bR, bg)) v R := by
  obtain ⟨Q, Qa, Qb, hS, ⟨hg, hl⟩, ⟨⟨hga, hla, hoa⟩, hgb, hlb, hob⟩, hik, hy, ⟨hcb, hcs, hcwd⟩, hrk, ⟨hpk, hpb⟩, h3, hkb, hcb2⟩ := h
  have hB := hS.1
  have hlo := hB.2.1
  have hday := hB.2.2.1
  have hlr := LWS_lwr hlo hl
  have ht := RST_TLS hS
  have h30 : v 30 = 0 := hS.2.1
  have hps := hS.2.2.2.2.1
  have hf16 := hps.1.1
  have hk16 := hps.1.2.1
  have e34 : v 34 = k := hps.1.2.2
  have h13 : v 13 = xv 0 := hS.2.2.1.2.1
  have hb0 : 0 ≤ xv 0 ∧ xv 0 ≤ 400 := hS.2.2.1.2.2
  have hc : im_ct ro T 110 94 [mr 0] (CW (xv, (lv, L, g), ik, (yv, yR, yg), (f, k, rw_), (cv, cb, cs, cwd), (rv, rb, rs_, (rcv, rcb, rcs, rcwd), rrw), (pv, (pcv, pb, ps, pwd), (sv, sR, sg), PR), (wq, wA, wu, wc, wk), fr, (av, aR, ag), (bv, bR, bg))) _ := cw_pass (by decide) hT (lw := lwf lv Q) hlo (by omega) hlr hcb hcs hcwd hf16 hk16
  obtain ⟨r1, w1, hc, hq⟩ := im_ct_ex hc
  have hm : im_ct ro T 110 204 [mr 0] (MW v R) _ := m_pass (by decide) hT ht (by omega) hday
  obtain ⟨r2, w2, hm, hn⟩ := im_ct_ex hm
  obtain ⟨rfl, cv1, cb1, cs1, cwd1, g1, g2, g3, q1, q2⟩ := hq
  obtain ⟨rfl, v1, R1, rfl, hP, e0, e1, hcs3⟩ := hn
  have hbd := cw_send_bd (lwf lv Q) hlo 1 0 0 0
  have hv1 : ∀ j ∈ [6, 13, 14, 30, 41, 49, 50], v1 j = v j := fun j hj => by
    simp only [List.mem_cons, List.not_mem_nil, or_false] at hj
    exact hP.1 j (by omega) (by omega) (by omega) (by omega) (by omega) (by omega) (by omega)
  have hR1 : ∀ j ∈ [3, 4, 6, 7, 22, 23], R1 j = R j := fun j hj => by
    simp only [List.mem_cons, List.not_mem_nil, or_false] at hj
    exact hP.2 j (by omega) (by omega) (by omega) (by omega)
  obtain ⟨t1, t2⟩ := RST_act hS rfl (K := 1) (a := 0) (b := 0) (n := 0) (by decide) hbd.1 (fun z => jn_no _ _ _ _ _ hlo z) hv1 hR1 e0 e1 hcs3
  have e4 : (pl_act (lwf lv Q) 1 0 0 0 lv L).2.1 4 = lv 4 := by
    rcases hcs3 with ⟨hz, -⟩ | ⟨hz, -, -, hr, hfr⟩
    · rw [jn_no _ _ _ _ _ hlo hz]
    · have e112 : R 2 112 = lv 4 := hB.1.1.2.2.2.2.1
      have e1123 : R1 2 112 = (pl_act (lwf lv Q) 1 0 0 0 lv L).2.1 4 := hr.1.2.2.2.2.1
      rw [← e112, ← e1123]
      exact hfr 112 (by decide)
  by_cases c : (pl_act (lwf lv Q) 1 0 0 0 lv L).1 < 0
  · obtain rfl := q1 c
    exact JN_mk hc hm rfl rfl rfl rfl rfl ⟨Q, Qa, Qb, t1 c, ⟨hg, LWS_v hl e4⟩, ⟨⟨hga, hla, hoa⟩, hgb, hlb, hob⟩, hik, hy, ⟨g1, g2, g3⟩, hrk, ⟨hpk, hpb⟩, h3, hkb, hcb2⟩
  · obtain rfl := q2 (by omega)
    exact JN_mk hc hm rfl rfl rfl rfl rfl ⟨Q, Qa, Qb, t2 (by omega), ⟨hg, LWS_v hl e4⟩, ⟨⟨hga, hla, hoa⟩, hgb, hlb, hob⟩, hik, hy, ⟨g1, g2, g3⟩, hrk, ⟨hpk, hpb⟩, h3, hkb, hcb2⟩
set_option maxHeartbeats 4000000 in
theorem jn_lend (hT : T.length < 1000) (h : INV T (xv, (lv, L, g), ik, (yv, yR, yg), (f, k, rw_), (cv, cb, cs, cwd), (rv, rb, rs_, (rcv, rcb, rcs, rcwd), rrw), (pv, (pcv, pb, ps, pwd), (sv, sR, sg), PR), (wq, wA, wu, wc, wk), fr, (av, aR, ag), (bv, bR, bg)) v R) {a : Int} (h_a : im_ir a) {b : Int} (h_b : im_ir b) {n : Int} (h_n : im_ir n) : JN ro T 95 205 [.inl a, .inl b, .inl n] (xv, (lv, L, g), ik, (yv, yR, yg), (f, k, rw_), (cv, cb, cs, cwd), (rv, rb, rs_, (rcv, rcb, rcs, rcwd), rrw), (pv, (pcv, pb, ps, pwd), (sv, sR, sg), PR), (wq, wA, wu, wc, wk), fr, (av, aR, ag), (bv, bR, bg)) v R := by
  obtain ⟨Q, Qa, Qb, hS, ⟨hg, hl⟩, ⟨⟨hga, hla, hoa⟩, hgb, hlb, hob⟩, hik, hy, ⟨hcb, hcs, hcwd⟩, hrk, ⟨hpk, hpb⟩, h3, hkb, hcb2⟩ := h
  have hB := hS.1
  have hlo := hB.2.1
  have hday := hB.2.2.1
  have hlr := LWS_lwr hlo hl
  have ht := RST_TLS hS
  have h30 : v 30 = 0 := hS.2.1
  have hps := hS.2.2.2.2.1
  have hf16 := hps.1.1
  have hk16 := hps.1.2.1
  have e34 : v 34 = k := hps.1.2.2
  have h13 : v 13 = xv 0 := hS.2.2.1.2.1
  have hb0 : 0 ≤ xv 0 ∧ xv 0 ≤ 400 := hS.2.2.1.2.2
  have hc : im_ct ro T 110 95 [mr 0, .inl a, .inl b, .inl n] (CW (xv, (lv, L, g), ik, (yv, yR, yg), (f, k, rw_), (cv, cb, cs, cwd), (rv, rb, rs_, (rcv, rcb, rcs, rcwd), rrw), (pv, (pcv, pb, ps, pwd), (sv, sR, sg), PR), (wq, wA, wu, wc, wk), fr, (av, aR, ag), (bv, bR, bg))) _ := cw_lend (by decide) hT (lw := lwf lv Q) hlo (by omega) hlr hcb hcs hcwd hf16 hk16 h_a h_b h_n
  obtain ⟨r1, w1, hc, hq⟩ := im_ct_ex hc
  have hm : im_ct ro T 110 205 [mr 0, .inl a, .inl b, .inl n] (MW v R) _ := m_lend (by decide) hT ht (by omega) h_a h_b h_n
  obtain ⟨r2, w2, hm, hn⟩ := im_ct_ex hm
  obtain ⟨rfl, cv1, cb1, cs1, cwd1, g1, g2, g3, q1, q2⟩ := hq
  obtain ⟨rfl, v1, R1, rfl, hP, e0, e1, hcs3⟩ := hn
  have hbd := cw_send_bd (lwf lv Q) hlo 2 a b n
  have hv1 : ∀ j ∈ [6, 13, 14, 30, 41, 49, 50], v1 j = v j := fun j hj => by
    simp only [List.mem_cons, List.not_mem_nil, or_false] at hj
    exact hP.1 j (by omega) (by omega) (by omega) (by omega) (by omega) (by omega) (by omega)
  have hR1 : ∀ j ∈ [3, 4, 6, 7, 22, 23], R1 j = R j := fun j hj => by
    simp only [List.mem_cons, List.not_mem_nil, or_false] at hj
    exact hP.2 j (by omega) (by omega) (by omega) (by omega)
  obtain ⟨t1, t2⟩ := RST_act hS rfl (K := 2) (a := a) (b := b) (n := n) (by decide) hbd.1 (fun z => jn_no _ _ _ _ _ hlo z) hv1 hR1 e0 e1 hcs3
  have e4 : (pl_act (lwf lv Q) 2 a b n lv L).2.1 4 = lv 4 := by
    rcases hcs3 with ⟨hz, -⟩ | ⟨hz, -, -, hr, hfr⟩
    · rw [jn_no _ _ _ _ _ hlo hz]
    · have e112 : R 2 112 = lv 4 := hB.1.1.2.2.2.2.1
      have e1123 : R1 2 112 = (pl_act (lwf lv Q) 2 a b n lv L).2.1 4 := hr.1.2.2.2.2.1
      rw [← e112, ← e1123]
      exact hfr 112 (by decide)
  by_cases c : (pl_act (lwf lv Q) 2 a b n lv L).1 < 0
  · obtain rfl := q1 c
    exact JN_mk hc hm rfl rfl rfl rfl rfl ⟨Q, Qa, Qb, t1 c, ⟨hg, LWS_v hl e4⟩, ⟨⟨hga, hla, hoa⟩, hgb, hlb, hob⟩, hik, hy, ⟨g1, g2, g3⟩, hrk, ⟨hpk, hpb⟩, h3, hkb, hcb2⟩
  · obtain rfl := q2 (by omega)
    exact JN_mk hc hm rfl rfl rfl rfl rfl ⟨Q, Qa, Qb, t2 (by omega), ⟨hg, LWS_v hl e4⟩, ⟨⟨hga, hla, hoa⟩, hgb, hlb, hob⟩, hik, hy, ⟨g1, g2, g3⟩, hrk, ⟨hpk, hpb⟩, h3, hkb, hcb2⟩
set_option maxHeartbeats 4000000 in
theorem jn_grow (hT : T.length < 1000) (h : INV T (xv, (lv, L, g), ik, (yv, yR, yg), (f, k, rw_), (cv, cb, cs, cwd), (rv, rb, rs_, (rcv, rcb, rcs, rcwd), rrw), (pv, (pcv, pb, ps, pwd), (sv, sR, sg), PR), (wq, wA, wu, wc, wk), fr, (av, aR, ag), (bv, bR, bg)) v R) {a : Int} (h_a : im_ir a) {b : Int} (h_b : im_ir b) : JN ro T 96 206 [.inl a, .inl b] (xv, (lv, L, g), ik, (yv, yR, yg), (f, k, rw_), (cv, cb, cs, cwd), (rv, rb, rs_, (rcv, rcb, rcs, rcwd), rrw), (pv, (pcv, pb, ps, pwd), (sv, sR, sg), PR), (wq, wA, wu, wc, wk), fr, (av, aR, ag), (bv, bR, bg)) v R := by
  obtain ⟨Q, Qa, Qb, hS, ⟨hg, hl⟩, ⟨⟨hga, hla, hoa⟩, hgb, hlb, hob⟩, hik, hy, ⟨hcb, hcs, hcwd⟩, hrk, ⟨hpk, hpb⟩, h3, hkb, hcb2⟩ := h
  have hB := hS.1
  have hlo := hB.2.1
  have hday := hB.2.2.1
  have hlr := LWS_lwr hlo hl
  have ht := RST_TLS hS
  have h30 : v 30 = 0 := hS.2.1
  have hps := hS.2.2.2.2.1
  have hf16 := hps.1.1
  have hk16 := hps.1.2.1
  have e34 : v 34 = k := hps.1.2.2
  have h13 : v 13 = xv 0 := hS.2.2.1.2.1
  have hb0 : 0 ≤ xv 0 ∧ xv 0 ≤ 400 := hS.2.2.1.2.2
  have hc : im_ct ro T 110 96 [mr 0, .inl a, .inl b] (CW (xv, (lv, L, g), ik, (yv, yR, yg), (f, k, rw_), (cv, cb, cs, cwd), (rv, rb, rs_, (rcv, rcb, rcs, rcwd), rrw), (pv, (pcv, pb, ps, pwd), (sv, sR, sg), PR), (wq, wA, wu, wc, wk), fr, (av, aR, ag), (bv, bR, bg))) _ := cw_grow (by decide) hT (lw := lwf lv Q) hlo (by omega) hlr hcb hcs hcwd hf16 hk16 h_a h_b
  obtain ⟨r1, w1, hc, hq⟩ := im_ct_ex hc
  have hm : im_ct ro T 110 206 [mr 0, .inl a, .inl b] (MW v R) _ := m_grow (by decide) hT ht (by omega) h_a h_b
  obtain ⟨r2, w2, hm, hn⟩ := im_ct_ex hm
  obtain ⟨rfl, cv1, cb1, cs1, cwd1, g1, g2, g3, q1, q2⟩ := hq
  obtain ⟨rfl, v1, R1, rfl, hP, e0, e1, hcs3⟩ := hn
  have hbd := cw_send_bd (lwf lv Q) hlo 3 a b 0
  have hv1 : ∀ j ∈ [6, 13, 14, 30, 41, 49, 50], v1 j = v j := fun j hj => by
    simp only [List.mem_cons, List.not_mem_nil, or_false] at hj
    exact hP.1 j (by omega) (by omega) (by omega) (by omega) (by omega) (by omega) (by omega)
  have hR1 : ∀ j ∈ [3, 4, 6, 7, 22, 23], R1 j = R j := fun j hj => by
    simp only [List.mem_cons, List.not_mem_nil, or_false] at hj
    exact hP.2 j (by omega) (by omega) (by omega) (by omega)
  obtain ⟨t1, t2⟩ := RST_act hS rfl (K := 3) (a := a) (b := b) (n := 0) (by decide) hbd.1 (fun z => jn_no _ _ _ _ _ hlo z) hv1 hR1 e0 e1 hcs3
  have e4 : (pl_act (lwf lv Q) 3 a b 0 lv L).2.1 4 = lv 4 := by
    rcases hcs3 with ⟨hz, -⟩ | ⟨hz, -, -, hr, hfr⟩
    · rw [jn_no _ _ _ _ _ hlo hz]
    · have e112 : R 2 112 = lv 4 := hB.1.1.2.2.2.2.1
      have e1123 : R1 2 112 = (pl_act (lwf lv Q) 3 a b 0 lv L).2.1 4 := hr.1.2.2.2.2.1
      rw [← e112, ← e1123]
      exact hfr 112 (by decide)
  by_cases c : (pl_act (lwf lv Q) 3 a b 0 lv L).1 < 0
  · obtain rfl := q1 c
    exact JN_mk hc hm rfl rfl rfl rfl rfl ⟨Q, Qa, Qb, t1 c, ⟨hg, LWS_v hl e4⟩, ⟨⟨hga, hla, hoa⟩, hgb, hlb, hob⟩, hik, hy, ⟨g1, g2, g3⟩, hrk, ⟨hpk, hpb⟩, h3, hkb, hcb2⟩
  · obtain rfl := q2 (by omega)
    exact JN_mk hc hm rfl rfl rfl rfl rfl ⟨Q, Qa, Qb, t2 (by omega), ⟨hg, LWS_v hl e4⟩, ⟨⟨hga, hla, hoa⟩, hgb, hlb, hob⟩, hik, hy, ⟨g1, g2, g3⟩, hrk, ⟨hpk, hpb⟩, h3, hkb, hcb2⟩
set_option maxHeartbeats 4000000 in
theorem jn_undo (hT : T.length < 1000) (h : INV T (xv, (lv, L, g), ik, (yv, yR, yg), (f, k, rw_), (cv, cb, cs, cwd), (rv, rb, rs_, (rcv, rcb, rcs, rcwd), rrw), (pv, (pcv, pb, ps, pwd), (sv, sR, sg), PR), (wq, wA, wu, wc, wk), fr, (av, aR, ag), (bv, bR, bg)) v R) : JN ro T 97 196 [] (xv, (lv, L, g), ik, (yv, yR, yg), (f, k, rw_), (cv, cb, cs, cwd), (rv, rb, rs_, (rcv, rcb, rcs, rcwd), rrw), (pv, (pcv, pb, ps, pwd), (sv, sR, sg), PR), (wq, wA, wu, wc, wk), fr, (av, aR, ag), (bv, bR, bg)) v R := by
  obtain ⟨Q, Qa, Qb, hS, ⟨hg, hl⟩, ⟨⟨hga, hla, hoa⟩, hgb, hlb, hob⟩, hik, hy, ⟨hcb, hcs, hcwd⟩, hrk, ⟨hpk, hpb⟩, h3, hkb, hcb2⟩ := h
  have hB := hS.1
  have hlo := hB.2.1
  have hday := hB.2.2.1
  have hlr := LWS_lwr hlo hl
  have ht := RST_TLS hS
  have h30 : v 30 = 0 := hS.2.1
  have hps := hS.2.2.2.2.1
  have hf16 := hps.1.1
  have hk16 := hps.1.2.1
  have e34 : v 34 = k := hps.1.2.2
  have h13 : v 13 = xv 0 := hS.2.2.1.2.1
  have hb0 : 0 ≤ xv 0 ∧ xv 0 ≤ 400 := hS.2.2.1.2.2
  have hu : 0 < k → 0 ≤ (rw_ (pt_at f (k - 1) + 10 + 10 + 16 + 16 + 16 + 3)) ∧ (rw_ (pt_at f (k - 1) + 10 + 10 + 16 + 16 + 16 + 3)) ≤ 3 := fun z => by
    have t := (RST_undo hS z).1
    rw [← t.1]
    exact t.2
  have hc : im_ct ro T 110 97 [mr 0] (CW (xv, (lv, L, g), ik, (yv, yR, yg), (f, k, rw_), (cv, cb, cs, cwd), (rv, rb, rs_, (rcv, rcb, rcs, rcwd), rrw), (pv, (pcv, pb, ps, pwd), (sv, sR, sg), PR), (wq, wA, wu, wc, wk), fr, (av, aR, ag), (bv, bR, bg))) _ := cw_undo (by decide) hT hf16 hk16 hu
  obtain ⟨r1, w1, hc, hq⟩ := im_ct_ex hc
  have hm : im_ct ro T 110 196 [mr 0] (MW v R) _ := m_undo (by decide) hT (by omega)
  obtain ⟨r2, w2, hm, hn⟩ := im_ct_ex hm
  obtain ⟨rfl, rfl⟩ := hn
  obtain ⟨q1, q2⟩ := hq
  by_cases c : 0 < k
  · obtain ⟨rfl, rfl⟩ := q2 c
    obtain ⟨⟨t1, t2⟩, t3⟩ := RST_undo hS c
    have ek : km_undo v R = (R 14 (72 * (v 34 - 1) + 71), pl_U (pl_U v 34 (v 34 - 1)) 0 0, pl_U R 2 (im_cpy (R 14) (R 2) (72 * (v 34 - 1)) 0 71)) := if_neg (by omega)
    rw [ek] at hm
    have e4 : pt_backv (pt_at f (k - 1)) rw_ lv 4 = lv 4 := by
      have e112 : R 2 112 = lv 4 := hB.1.1.2.2.2.2.1
      have e1123 := t3.1.1.1.2.2.2.2.1
      rw [← e112, ← e1123]
      show im_cpy (R 14) (R 2) (72 * (v 34 - 1)) 0 71 112 = R 2 112
      unfold im_cpy
      rw [if_neg (by omega)]
    exact JN_mk hc hm rfl rfl rfl rfl t1 ⟨Q, Qa, Qb, RST_set0 t3 (hu c).1, ⟨hg, LWS_v hl e4⟩, ⟨⟨hga, hla, hoa⟩, hgb, hlb, hob⟩, hik, hy, ⟨hcb, hcs, hcwd⟩, hrk, ⟨hpk, hpb⟩, h3, hkb, hcb2⟩
  · obtain ⟨rfl, rfl⟩ := q1 (by omega)
    have ek : km_undo v R = km_refu (-3) v R := if_pos (by omega)
    rw [ek] at hm
    exact JN_mk hc hm rfl rfl rfl rfl rfl ⟨Q, Qa, Qb, RST_ref hS (by decide), ⟨hg, hl⟩, ⟨⟨hga, hla, hoa⟩, hgb, hlb, hob⟩, hik, hy, ⟨hcb, hcs, hcwd⟩, hrk, ⟨hpk, hpb⟩, h3, hkb, hcb2⟩
theorem RIM_tk {R : Nat → Int → Int} {ik : Int → Int} {e : Int} {lv iv : Nat → Int} {L iR : Nat → Int → Int} {Q : Int → im_T} (ho : LOK iv iR) (h : RIM R ik e (lv, L, Q)) : RIM R ik e (pl_v iv lv, pl_R iR L, Q) := ⟨h.1, h.2.1, fun z => KB_take (h.2.2 z) ho⟩
set_option maxHeartbeats 4000000 in
theorem jn_image (hT : T.length < 1000) (h : INV T (xv, (lv, L, g), ik, (yv, yR, yg), (f, k, rw_), (cv, cb, cs, cwd), (rv, rb, rs_, (rcv, rcb, rcs, rcwd), rrw), (pv, (pcv, pb, ps, pwd), (sv, sR, sg), PR), (wq, wA, wu, wc, wk), fr, (av, aR, ag), (bv, bR, bg)) v R) {e : Int} (h_e : im_ir e) : JN ro T 111 131 [.inl e] (xv, (lv, L, g), ik, (yv, yR, yg), (f, k, rw_), (cv, cb, cs, cwd), (rv, rb, rs_, (rcv, rcb, rcs, rcwd), rrw), (pv, (pcv, pb, ps, pwd), (sv, sR, sg), PR), (wq, wA, wu, wc, wk), fr, (av, aR, ag), (bv, bR, bg)) v R := by
  obtain ⟨Q, Qa, Qb, hS, ⟨hg, hl⟩, ⟨⟨hga, hla, hoa⟩, hgb, hlb, hob⟩, hik, hy, ⟨hcb, hcs, hcwd⟩, hrk, ⟨hpk, hpb⟩, h3, hkb, hcb2⟩ := h
  have hB := hS.1
  have hlo := hB.2.1
  have hday := hB.2.2.1
  have hlr := LWS_lwr hlo hl
  have ht := RST_TLS hS
  have h30 : v 30 = 0 := hS.2.1
  have hps := hS.2.2.2.2.1
  have hf16 := hps.1.1
  have hk16 := hps.1.2.1
  have e34 : v 34 = k := hps.1.2.2
  have h13 : v 13 = xv 0 := hS.2.2.1.2.1
  have hb0 : 0 ≤ xv 0 ∧ xv 0 ≤ 400 := hS.2.2.1.2.2
  have hc : im_ct ro T 110 111 [mr 0, .inl e] (CW (xv, (lv, L, g), ik, (yv, yR, yg), (f, k, rw_), (cv, cb, cs, cwd), (rv, rb, rs_, (rcv, rcb, rcs, rcwd), rrw), (pv, (pcv, pb, ps, pwd), (sv, sR, sg), PR), (wq, wA, wu, wc, wk), fr, (av, aR, ag), (bv, bR, bg))) _ := cw_image (by decide) hT hg h_e
  obtain ⟨r1, w1, hc, hq⟩ := im_ct_ex hc
  have hm : im_ct ro T 110 131 [mr 0, .inl e] (MW v R) _ := m_image (by decide) hT h_e
  obtain ⟨r2, w2, hm, hn⟩ := im_ct_ex hm
  obtain ⟨rfl, rfl⟩ := hn
  obtain ⟨q1, q2, q3⟩ := hq
  by_cases c0 : e = 0
  · subst c0
    obtain ⟨rfl, rfl⟩ := q2 rfl
    have t := RST_img hS (e := 0) (by decide)
    have t0 := t.2.2.2.2.2.2.2.2.1
    have ek : km_image 0 v R = (0, pl_U v 0 0, (pl_U (pl_U R 3 (im_cpy (R 2) (R 3) 0 (5721 * 0) 5721)) 4 (im_up (R 4) 0 1))) := if_pos (by decide)
    rw [ek] at hm
    exact JN_mk hc hm rfl rfl rfl rfl rfl ⟨Q, Q, Qb, RST_set0 (RST_ims t (j0 := (pl_v av lv, pl_R aR L, Q)) (j1 := (bv, bR, Qb)) (RIM_tk hoa (RIM_take (e := 0) (by decide) hB)) t0.2) (Int.le_refl _), ⟨hg, hl⟩, ⟨⟨GV_take hga hg, fun _ => LWS_take hl (lk_law hlo).2, LOK_take hoa hlo⟩, hgb, fun z => hlb (by rw [im_up_ne _ _ (by decide)] at z; exact z), hob⟩, (fun i => by unfold im_up; split; exact Or.inr rfl; exact hik i), hy, ⟨hcb, hcs, hcwd⟩, hrk, ⟨hpk, hpb⟩, h3, hkb, hcb2⟩
  · by_cases c1 : e = 1
    · subst c1
      obtain ⟨rfl, rfl⟩ := q3 rfl
      have t := RST_img hS (e := 1) (by decide)
      have t0 := t.2.2.2.2.2.2.2.2.1
      have ek : km_image 1 v R = (0, pl_U v 0 0, (pl_U (pl_U R 3 (im_cpy (R 2) (R 3) 0 (5721 * 1) 5721)) 4 (im_up (R 4) 1 1))) := if_pos (by decide)
      rw [ek] at hm
      exact JN_mk hc hm rfl rfl rfl rfl rfl ⟨Q, Qa, Q, RST_set0 (RST_ims t (j0 := (av, aR, Qa)) (j1 := (pl_v bv lv, pl_R bR L, Q)) t0.1 (RIM_tk hob (RIM_take (e := 1) (by decide) hB))) (Int.le_refl _), ⟨hg, hl⟩, ⟨⟨hga, fun z => hla (by rw [im_up_ne _ _ (by decide)] at z; exact z), hoa⟩, GV_take hgb hg, fun _ => LWS_take hl (lk_law hlo).2, LOK_take hob hlo⟩, (fun i => by unfold im_up; split; exact Or.inr rfl; exact hik i), hy, ⟨hcb, hcs, hcwd⟩, hrk, ⟨hpk, hpb⟩, h3, hkb, hcb2⟩
    · obtain ⟨rfl, rfl⟩ := q1 (by omega)
      have ek : km_image e v R = km_refu (-1) v R := if_neg (by omega)
      rw [ek] at hm
      exact JN_mk hc hm rfl rfl rfl rfl rfl ⟨Q, Qa, Qb, RST_ref hS (by decide), ⟨hg, hl⟩, ⟨⟨hga, hla, hoa⟩, hgb, hlb, hob⟩, hik, hy, ⟨hcb, hcs, hcwd⟩, hrk, ⟨hpk, hpb⟩, h3, hkb, hcb2⟩
end Jn
section Mb
variable {ro : ab_R} {T : List im_T} {d : Nat} {v : Nat → Int} {R : Nat → Int → Int}
set_option maxHeartbeats 8000000 in
theorem m_back2 (hd : 3 ≤ d) (hT : T.length < 1000) {k : Int} (hk : im_ir k) (hi : 0 ≤ k → k ≤ 1 → 0 ≤ R 4 k ∧ R 4 k ≤ 1) : im_ct ro T d 132 [mr 0, .inl k] (MW v R) (fun r w => r = some (.inl (km_back k v R).1) ∧ w = MW (km_back k v R).2.1 (km_back k v R).2.2) := by
  obtain ⟨d, rfl⟩ : ∃ e, d = e + 1 := ⟨d - 1, by omega⟩
  refine im_ct_of (own := 9) (ret := (some .int)) (code := ab_k_X9_back) (nL := 3) (L0 := [some (mr 0), some (.inl k), none]) (n := 24) rfl rfl rfl rfl rfl rfl rfl rfl rfl ?_
  refine im_g 3 (y := (3, _, _, _)) rfl trivial ?_
  refine im_call [] rfl rfl (m_lies (x := k) (a := 0) (b := 1) (by omega) hT (by omega) (by omega) (by omega)) rfl rfl rfl (by decide) rfl (by decide) hT (fun v1 w1 hq => ?_)
  obtain ⟨rfl, rfl⟩ := hq
  refine ⟨_, _, MW v R, rfl, rfl, rfl, ?_⟩
  refine im_b rfl rfl ⟨(by omega), trivial⟩ (fun j1 => ?_) (fun j1 => ?_)
  · have c6 : 0 ≤ k ∧ k ≤ 1 := by
      by_cases hh : 0 ≤ k ∧ k ≤ 1
      · exact hh
      · rw [if_neg hh] at j1; exact absurd rfl j1
    clear j1
    have hik := hi c6.1 c6.2
    refine im_g 4 (y := (21, _, _, _)) rfl ⟨(by omega), trivial⟩ ?_
    refine im_b rfl rfl ⟨(by omega), trivial⟩ (fun j2 => ?_) (fun j2 => ?_)
    · refine im_g 2 (y := (33, _, _, _)) rfl trivial ?_
      refine im_eqs (y := (33, [some (mr 0), some (.inl k), some (.inl ((0 : Nat) : Int))], [], MW v (pl_U R 2 (im_cpy (R 3) (R 2) (5721 * k) (0) ((0 : Nat) : Int))))) (by rw [im_cpy_0]; rfl) ?_
      refine im_for 5721 (fun m => (33, [some (mr 0), some (.inl k), some (.inl (m : Int))], [], MW v (pl_U R 2 (im_cpy (R 3) (R 2) (5721 * k) (0) (m : Int))))) (fun m hm ih => ?_) ?_
      · refine im_g 2 (y := (37, _, _, _)) rfl trivial ?_
        refine im_bF rfl rfl ⟨(by omega), (by omega), trivial⟩ (by omega) ?_
        refine im_g 14 (y := (33, _, _, _)) rfl ⟨(by omega), (by omega), trivial⟩ ?_
        rw [im_cpy_sd] at ih
        exact ih
      · refine im_g 2 (y := (37, _, _, _)) rfl trivial ?_
        refine im_bT rfl rfl ⟨(by omega), (by omega), trivial⟩ (by omega) ?_
        refine im_g 2 (y := (66, _, _, _)) rfl trivial ?_
        refine im_cM rfl rfl (m_settled (v := v) (R := (pl_U R 2 (im_cpy (R 3) (R 2) (5721 * k) 0 5721))) (x := 0) (by omega) hT) rfl hT (fun v1 w1 hq => ?_)
        obtain ⟨rfl, rfl⟩ := hq
        refine ⟨(pl_U (pl_U v 34 0) 0 0), (pl_U R 2 (im_cpy (R 3) (R 2) (5721 * k) 0 5721)), rfl, rfl, ?_⟩
        refine im_r rfl rfl trivial rfl ?_
        unfold km_back
        rw [if_pos c6, if_neg (by omega)]
        exact ⟨rfl, rfl⟩
    · refine im_g 2 (y := (27, _, _, _)) rfl trivial ?_
      refine im_cM rfl rfl (m_refuses (v := v) (R := R) (x := -2) (by omega) hT (by decide)) rfl hT (fun v1 w1 hq => ?_)
      obtain ⟨rfl, rfl⟩ := hq
      refine ⟨(pl_U v 0 (-2)), (kp_ref (-2) R), rfl, rfl, ?_⟩
      refine im_r rfl rfl trivial rfl ?_
      unfold km_back
      rw [if_pos c6, if_pos (by omega)]
      exact ⟨rfl, rfl⟩
  · have c6 : ¬ (0 ≤ k ∧ k ≤ 1) := by
      intro hh
      rw [if_pos hh] at j1
      exact j1 (by decide)
    clear j1
    refine im_g 2 (y := (11, _, _, _)) rfl trivial ?_
    refine im_cM rfl rfl (m_refuses (v := v) (R := R) (x := -1) (by omega) hT (by decide)) rfl hT (fun v1 w1 hq => ?_)
    obtain ⟨rfl, rfl⟩ := hq
    refine ⟨(pl_U v 0 (-1)), (kp_ref (-1) R), rfl, rfl, ?_⟩
    refine im_r rfl rfl trivial rfl ?_
    unfold km_back
    rw [if_neg c6]
    exact ⟨rfl, rfl⟩
end Mb
section Jn
variable {ro : ab_R} {T : List im_T} {xv : Nat → Int} {lv : Nat → Int} {L : Nat → Int → Int} {g : Int → Option Nat} {ik : Int → Int} {yv : Nat → Int} {yR : Nat → Int → Int} {yg : Int → Option Nat} {f k : Int} {rw_ : Int → Int} {cv : Nat → Int} {cb : Int} {cs cwd : Int → Int} {rv rcv : Nat → Int} {rb rcb : Int} {rs_ rcs rcwd rrw : Int → Int} {pv pcv : Nat → Int} {pb : Int} {ps pwd : Int → Int} {sv : Nat → Int} {sR : Nat → Int → Int} {sg : Int → Option Nat} {PR : Nat → Int → Int} {wq : Nat → Int} {wA : Int → Int} {wu : Int × Int × Int} {wc wk : Int → Int} {fr : Int → Int} {av : Nat → Int} {aR : Nat → Int → Int} {ag : Int → Option Nat} {bv : Nat → Int} {bR : Nat → Int → Int} {bg : Int → Option Nat} {v : Nat → Int} {R : Nat → Int → Int}
set_option maxHeartbeats 4000000 in
theorem jn_back (hT : T.length < 1000) (h : INV T (xv, (lv, L, g), ik, (yv, yR, yg), (f, k, rw_), (cv, cb, cs, cwd), (rv, rb, rs_, (rcv, rcb, rcs, rcwd), rrw), (pv, (pcv, pb, ps, pwd), (sv, sR, sg), PR), (wq, wA, wu, wc, wk), fr, (av, aR, ag), (bv, bR, bg)) v R) {e : Int} (h_e : im_ir e) : JN ro T 112 132 [.inl e] (xv, (lv, L, g), ik, (yv, yR, yg), (f, k, rw_), (cv, cb, cs, cwd), (rv, rb, rs_, (rcv, rcb, rcs, rcwd), rrw), (pv, (pcv, pb, ps, pwd), (sv, sR, sg), PR), (wq, wA, wu, wc, wk), fr, (av, aR, ag), (bv, bR, bg)) v R := by
  obtain ⟨Q, Qa, Qb, hS, ⟨hg, hl⟩, ⟨⟨hga, hla, hoa⟩, hgb, hlb, hob⟩, hik, hy, ⟨hcb, hcs, hcwd⟩, hrk, ⟨hpk, hpb⟩, h3, hkb, hcb2⟩ := h
  have hB := hS.1
  have hlo := hB.2.1
  have hday := hB.2.2.1
  have hlr := LWS_lwr hlo hl
  have ht := RST_TLS hS
  have h30 : v 30 = 0 := hS.2.1
  have hps := hS.2.2.2.2.1
  have hf16 := hps.1.1
  have hk16 := hps.1.2.1
  have e34 : v 34 = k := hps.1.2.2
  have h13 : v 13 = xv 0 := hS.2.2.1.2.1
  have hb0 : 0 ≤ xv 0 ∧ xv 0 ≤ 400 := hS.2.2.1.2.2
  have hIM := hS.2.2.2.2.2.2.2.2.1
  have hi : 0 ≤ e → e ≤ 1 → 0 ≤ R 4 e ∧ R 4 e ≤ 1 := fun a b => by
    have hk : e = 0 ∨ e = 1 := by omega
    rcases hk with rfl | rfl
    · have a1 := hIM.1.1
      have a2 := hIM.1.2.1
      omega
    · have a1 := hIM.2.1
      have a2 := hIM.2.2.1
      omega
  have hc : im_ct ro T 110 112 [mr 0, .inl e] (CW (xv, (lv, L, g), ik, (yv, yR, yg), (f, k, rw_), (cv, cb, cs, cwd), (rv, rb, rs_, (rcv, rcb, rcs, rcwd), rrw), (pv, (pcv, pb, ps, pwd), (sv, sR, sg), PR), (wq, wA, wu, wc, wk), fr, (av, aR, ag), (bv, bR, bg))) _ := cw_back (by decide) hT hga hgb hik h_e
  obtain ⟨r1, w1, hc, hq⟩ := im_ct_ex hc
  have hm : im_ct ro T 110 132 [mr 0, .inl e] (MW v R) _ := m_back2 (by decide) hT h_e hi
  obtain ⟨r2, w2, hm, hn⟩ := im_ct_ex hm
  obtain ⟨rfl, rfl⟩ := hn
  obtain ⟨q1, q2, q3, q4⟩ := hq
  by_cases c0 : e = 0
  · subst c0
    by_cases c : ik 0 = 1
    · obtain ⟨rfl, rfl⟩ := q3 ⟨rfl, c⟩
      have t := RST_back hS hIM.1 c
      have ek : km_back 0 v R = (0, pl_U (pl_U v 34 0) 0 0, (pl_U R 2 (im_cpy (R 3) (R 2) (5721 * 0) 0 5721))) := by
        unfold km_back
        rw [if_pos (by decide), if_neg (by rw [hIM.1.1, c]; decide)]
      rw [ek] at hm
      have hBi := t.1
      exact JN_mk hc hm rfl rfl rfl rfl rfl ⟨Qa, Qa, Qb, RST_set0 (RST_land t (KB_take hBi hlo) rfl) (Int.le_refl _), ⟨GV_take hg hga, LWS_take (hla c) (lk_law hBi.2.1).2⟩, ⟨⟨hga, hla, hoa⟩, hgb, hlb, hob⟩, hik, hy, ⟨hcb, hcs, hcwd⟩, hrk, ⟨hpk, hpb⟩, h3, hkb, hcb2⟩
    · have c0 : ik 0 = 0 := by
        rcases hik 0 with z | z
        · exact z
        · exact absurd z c
      obtain ⟨rfl, rfl⟩ := q2 ⟨by decide, c0⟩
      have ek : km_back 0 v R = km_refu (-2) v R := by
        unfold km_back
        rw [if_pos (by decide), if_pos (by rw [hIM.1.1, c0])]
      rw [ek] at hm
      exact JN_mk hc hm rfl rfl rfl rfl rfl ⟨Q, Qa, Qb, RST_ref hS (by decide), ⟨hg, hl⟩, ⟨⟨hga, hla, hoa⟩, hgb, hlb, hob⟩, hik, hy, ⟨hcb, hcs, hcwd⟩, hrk, ⟨hpk, hpb⟩, h3, hkb, hcb2⟩
  · by_cases c1 : e = 1
    · subst c1
      by_cases c : ik 1 = 1
      · obtain ⟨rfl, rfl⟩ := q4 ⟨rfl, c⟩
        have t := RST_back hS hIM.2 c
        have ek : km_back 1 v R = (0, pl_U (pl_U v 34 0) 0 0, (pl_U R 2 (im_cpy (R 3) (R 2) (5721 * 1) 0 5721))) := by
          unfold km_back
          rw [if_pos (by decide), if_neg (by rw [hIM.2.1, c]; decide)]
        rw [ek] at hm
        have hBi := t.1
        exact JN_mk hc hm rfl rfl rfl rfl rfl ⟨Qb, Qa, Qb, RST_set0 (RST_land t (KB_take hBi hlo) rfl) (Int.le_refl _), ⟨GV_take hg hgb, LWS_take (hlb c) (lk_law hBi.2.1).2⟩, ⟨⟨hga, hla, hoa⟩, hgb, hlb, hob⟩, hik, hy, ⟨hcb, hcs, hcwd⟩, hrk, ⟨hpk, hpb⟩, h3, hkb, hcb2⟩
      · have c0 : ik 1 = 0 := by
          rcases hik 1 with z | z
          · exact z
          · exact absurd z c
        obtain ⟨rfl, rfl⟩ := q2 ⟨by decide, c0⟩
        have ek : km_back 1 v R = km_refu (-2) v R := by
          unfold km_back
          rw [if_pos (by decide), if_pos (by rw [hIM.2.1, c0])]
        rw [ek] at hm
        exact JN_mk hc hm rfl rfl rfl rfl rfl ⟨Q, Qa, Qb, RST_ref hS (by decide), ⟨hg, hl⟩, ⟨⟨hga, hla, hoa⟩, hgb, hlb, hob⟩, hik, hy, ⟨hcb, hcs, hcwd⟩, hrk, ⟨hpk, hpb⟩, h3, hkb, hcb2⟩
    · obtain ⟨rfl, rfl⟩ := q1 (by omega)
      have ek : km_back e v R = km_refu (-1) v R := if_neg (by omega)
      rw [ek] at hm
      exact JN_mk hc hm rfl rfl rfl rfl rfl ⟨Q, Qa, Qb, RST_ref hS (by decide), ⟨hg, hl⟩, ⟨⟨hga, hla, hoa⟩, hgb, hlb, hob⟩, hik, hy, ⟨hcb, hcs, hcwd⟩, hrk, ⟨hpk, hpb⟩, h3, hkb, hcb2⟩
set_option maxHeartbeats 4000000 in
theorem jn_feed (hT : T.length < 1000) (h : INV T (xv, (lv, L, g), ik, (yv, yR, yg), (f, k, rw_), (cv, cb, cs, cwd), (rv, rb, rs_, (rcv, rcb, rcs, rcwd), rrw), (pv, (pcv, pb, ps, pwd), (sv, sR, sg), PR), (wq, wA, wu, wc, wk), fr, (av, aR, ag), (bv, bR, bg)) v R) {x1 : Int} (h_x1 : im_ir x1) {x2 : Int} (h_x2 : im_ir x2) {x3 : Int} (h_x3 : im_ir x3) {x4 : Int} (h_x4 : im_ir x4) {x5 : Int} (h_x5 : im_ir x5) : JN ro T 84 144 [.inl x1, .inl x2, .inl x3, .inl x4, .inl x5] (xv, (lv, L, g), ik, (yv, yR, yg), (f, k, rw_), (cv, cb, cs, cwd), (rv, rb, rs_, (rcv, rcb, rcs, rcwd), rrw), (pv, (pcv, pb, ps, pwd), (sv, sR, sg), PR), (wq, wA, wu, wc, wk), fr, (av, aR, ag), (bv, bR, bg)) v R := by
  obtain ⟨Q, Qa, Qb, hS, ⟨hg, hl⟩, ⟨⟨hga, hla, hoa⟩, hgb, hlb, hob⟩, hik, hy, ⟨hcb, hcs, hcwd⟩, hrk, ⟨hpk, hpb⟩, h3, hkb, hcb2⟩ := h
  have hB := hS.1
  have hlo := hB.2.1
  have hday := hB.2.2.1
  have hlr := LWS_lwr hlo hl
  have ht := RST_TLS hS
  have h30 : v 30 = 0 := hS.2.1
  have hps := hS.2.2.2.2.1
  have hf16 := hps.1.1
  have hk16 := hps.1.2.1
  have e34 : v 34 = k := hps.1.2.2
  have h13 : v 13 = xv 0 := hS.2.2.1.2.1
  have hb0 : 0 ≤ xv 0 ∧ xv 0 ≤ 400 := hS.2.2.1.2.2
  have hc : im_ct ro T 110 84 [mr 0, .inl x1, .inl x2, .inl x3, .inl x4, .inl x5] (CW (xv, (lv, L, g), ik, (yv, yR, yg), (f, k, rw_), (cv, cb, cs, cwd), (rv, rb, rs_, (rcv, rcb, rcs, rcwd), rrw), (pv, (pcv, pb, ps, pwd), (sv, sR, sg), PR), (wq, wA, wu, wc, wk), fr, (av, aR, ag), (bv, bR, bg))) _ := cw_feed (by decide) hT hb0
  obtain ⟨r1, w1, hc, hq⟩ := im_ct_ex hc
  have hm : im_ct ro T 110 144 [mr 0, .inl x1, .inl x2, .inl x3, .inl x4, .inl x5] (MW v R) _ := m_feed (by decide) hT (by omega)
  obtain ⟨r2, w2, hm, hn⟩ := im_ct_ex hm
  obtain ⟨rfl, rfl⟩ := hn
  obtain ⟨q1, q2⟩ := hq
  by_cases c : xv 0 ≤ 380
  · obtain ⟨rfl, rfl⟩ := q2 c
    have ek : km_feed x1 x2 x3 x4 x5 v R = (v 13 + 20, pl_U v 13 (v 13 + 20), pl_U (pl_U R 8 (kp_five x1 x2 x3 x4 x5 (R 8))) 7 (kp_fd (v 13) (kp_five x1 x2 x3 x4 x5 (R 8)) (R 7) 20)) := if_pos (by omega)
    rw [ek] at hm
    have t := RST_feed hS c h_x1 h_x2 h_x3 h_x4 h_x5
    rw [show xv 0 + 20 = xv 0 + 4 + 4 + 4 + 4 + 4 by omega] at t
    exact JN_mk hc hm rfl rfl rfl rfl (by omega) ⟨Q, Qa, Qb, t, ⟨hg, hl⟩, ⟨⟨hga, hla, hoa⟩, hgb, hlb, hob⟩, hik, hy, ⟨hcb, hcs, hcwd⟩, hrk, ⟨hpk, hpb⟩, h3, hkb, hcb2⟩
  · obtain ⟨rfl, rfl⟩ := q1 c
    have ek : km_feed x1 x2 x3 x4 x5 v R = (-1, v, R) := if_neg (by omega)
    rw [ek] at hm
    exact JN_mk hc hm rfl rfl rfl rfl rfl ⟨Q, Qa, Qb, hS, ⟨hg, hl⟩, ⟨⟨hga, hla, hoa⟩, hgb, hlb, hob⟩, hik, hy, ⟨hcb, hcs, hcwd⟩, hrk, ⟨hpk, hpb⟩, h3, hkb, hcb2⟩
set_option maxHeartbeats 4000000 in
theorem jn_end (hT : T.length < 1000) (h : INV T (xv, (lv, L, g), ik, (yv, yR, yg), (f, k, rw_), (cv, cb, cs, cwd), (rv, rb, rs_, (rcv, rcb, rcs, rcwd), rrw), (pv, (pcv, pb, ps, pwd), (sv, sR, sg), PR), (wq, wA, wu, wc, wk), fr, (av, aR, ag), (bv, bR, bg)) v R) {n : Int} (h_n : im_ir n) : JN ro T 85 145 [.inl n] (xv, (lv, L, g), ik, (yv, yR, yg), (f, k, rw_), (cv, cb, cs, cwd), (rv, rb, rs_, (rcv, rcb, rcs, rcwd), rrw), (pv, (pcv, pb, ps, pwd), (sv, sR, sg), PR), (wq, wA, wu, wc, wk), fr, (av, aR, ag), (bv, bR, bg)) v R := by
  obtain ⟨Q, Qa, Qb, hS, ⟨hg, hl⟩, ⟨⟨hga, hla, hoa⟩, hgb, hlb, hob⟩, hik, hy, ⟨hcb, hcs, hcwd⟩, hrk, ⟨hpk, hpb⟩, h3, hkb, hcb2⟩ := h
  have hB := hS.1
  have hlo := hB.2.1
  have hday := hB.2.2.1
  have hlr := LWS_lwr hlo hl
  have ht := RST_TLS hS
  have h30 : v 30 = 0 := hS.2.1
  have hps := hS.2.2.2.2.1
  have hf16 := hps.1.1
  have hk16 := hps.1.2.1
  have e34 : v 34 = k := hps.1.2.2
  have h13 : v 13 = xv 0 := hS.2.2.1.2.1
  have hb0 : 0 ≤ xv 0 ∧ xv 0 ≤ 400 := hS.2.2.1.2.2
  have hc : im_ct ro T 110 85 [mr 0, .inl n] (CW (xv, (lv, L, g), ik, (yv, yR, yg), (f, k, rw_), (cv, cb, cs, cwd), (rv, rb, rs_, (rcv, rcb, rcs, rcwd), rrw), (pv, (pcv, pb, ps, pwd), (sv, sR, sg), PR), (wq, wA, wu, wc, wk), fr, (av, aR, ag), (bv, bR, bg))) _ := cw_end (by decide) hT hb0 h_n
  obtain ⟨r1, w1, hc, hq⟩ := im_ct_ex hc
  have hm : im_ct ro T 110 145 [mr 0, .inl n] (MW v R) _ := m_end (by decide) hT h_n (by omega)
  obtain ⟨r2, w2, hm, hn⟩ := im_ct_ex hm
  obtain ⟨rfl, rfl⟩ := hn
  obtain ⟨q1, q2⟩ := hq
  by_cases c : 0 ≤ n ∧ n ≤ xv 0
  · obtain ⟨rfl, rfl⟩ := q2 c
    rw [if_pos (show 0 ≤ n ∧ n ≤ v 13 by omega), if_pos (show 0 ≤ n ∧ n ≤ v 13 by omega)] at hm
    exact JN_mk hc hm rfl rfl rfl rfl rfl ⟨Q, Qa, Qb, RST_end hS c, ⟨hg, hl⟩, ⟨⟨hga, hla, hoa⟩, hgb, hlb, hob⟩, hik, hy, ⟨hcb, hcs, hcwd⟩, hrk, ⟨hpk, hpb⟩, h3, hkb, hcb2⟩
  · obtain ⟨rfl, rfl⟩ := q1 c
    rw [if_neg (show ¬ (0 ≤ n ∧ n ≤ v 13) by omega), if_neg (show ¬ (0 ≤ n ∧ n ≤ v 13) by omega)] at hm
    exact JN_mk hc hm rfl rfl rfl rfl rfl ⟨Q, Qa, Qb, hS, ⟨hg, hl⟩, ⟨⟨hga, hla, hoa⟩, hgb, hlb, hob⟩, hik, hy, ⟨hcb, hcs, hcwd⟩, hrk, ⟨hpk, hpb⟩, h3, hkb, hcb2⟩
set_option maxHeartbeats 4000000 in
theorem jn_row (hT : T.length < 1000) (h : INV T (xv, (lv, L, g), ik, (yv, yR, yg), (f, k, rw_), (cv, cb, cs, cwd), (rv, rb, rs_, (rcv, rcb, rcs, rcwd), rrw), (pv, (pcv, pb, ps, pwd), (sv, sR, sg), PR), (wq, wA, wu, wc, wk), fr, (av, aR, ag), (bv, bR, bg)) v R) : JN ro T 86 142 [] (xv, (lv, L, g), ik, (yv, yR, yg), (f, k, rw_), (cv, cb, cs, cwd), (rv, rb, rs_, (rcv, rcb, rcs, rcwd), rrw), (pv, (pcv, pb, ps, pwd), (sv, sR, sg), PR), (wq, wA, wu, wc, wk), fr, (av, aR, ag), (bv, bR, bg)) v R := by
  obtain ⟨Q, Qa, Qb, hS, ⟨hg, hl⟩, ⟨⟨hga, hla, hoa⟩, hgb, hlb, hob⟩, hik, hy, ⟨hcb, hcs, hcwd⟩, hrk, ⟨hpk, hpb⟩, h3, hkb, hcb2⟩ := h
  have hB := hS.1
  have hlo := hB.2.1
  have hday := hB.2.2.1
  have hlr := LWS_lwr hlo hl
  have ht := RST_TLS hS
  have h30 : v 30 = 0 := hS.2.1
  have hps := hS.2.2.2.2.1
  have hf16 := hps.1.1
  have hk16 := hps.1.2.1
  have e34 : v 34 = k := hps.1.2.2
  have h13 : v 13 = xv 0 := hS.2.2.1.2.1
  have hb0 : 0 ≤ xv 0 ∧ xv 0 ≤ 400 := hS.2.2.1.2.2
  have hA := hS.2.2.1.1
  have hc : im_ct ro T 110 86 [mr 0] (CW (xv, (lv, L, g), ik, (yv, yR, yg), (f, k, rw_), (cv, cb, cs, cwd), (rv, rb, rs_, (rcv, rcb, rcs, rcwd), rrw), (pv, (pcv, pb, ps, pwd), (sv, sR, sg), PR), (wq, wA, wu, wc, wk), fr, (av, aR, ag), (bv, bR, bg))) _ := cw_row (by decide) hT hlo (TA_ok hA) hb0
  obtain ⟨r1, w1, hc, hq⟩ := im_ct_ex hc
  have hm : im_ct ro T 110 142 [mr 0] (MW v R) _ := m_row (by decide) hT hB.1 hlo hA (by omega)
  obtain ⟨r2, w2, hm, hn⟩ := im_ct_ex hm
  obtain ⟨q1, q2⟩ := hq
  rw [h13] at hn
  rcases hn with ⟨c, rfl, rfl⟩ | ⟨c, rfl, Rx, rfl, g1, g2, g3⟩
  · obtain ⟨rfl, rfl⟩ := q1 c
    have t0 := RST_end hS (n := xv 0) (by omega)
    have t1 := RST_ref t0 (x := -6) (by decide)
    rw [c] at t1
    exact JN_mk hc hm rfl rfl rfl rfl rfl ⟨Q, Qa, Qb, (by show RST wA (xv 0) lv L Q f k rw_ (cw_fr (-6) fr) (if (-6 : Int) < 0 then -6 else 0) (xv 13) (xv 14) (xv 15) ik (av, aR, Qa) (bv, bR, Qb) (xv 5) yv yR _ _; rw [c]; exact t1), ⟨hg, hl⟩, ⟨⟨hga, hla, hoa⟩, hgb, hlb, hob⟩, hik, hy, ⟨hcb, hcs, hcwd⟩, hrk, ⟨hpk, hpb⟩, h3, hkb, hcb2⟩
  · obtain ⟨rfl, rfl⟩ := q2 c
    have t := RST_row hS g1 g2 g3
    have hok := rk_ok (A := wA) (b := xv 0) hlo (rk_n (xv 0))
    have e4 : (rk wA (xv 0) lv L (rk_n (xv 0))).2.1 4 = lv 4 := by
      have e112 : R 2 112 = lv 4 := hB.1.1.2.2.2.2.1
      have e1123 := g2.1.2.2.2.2.1
      rw [← e112, ← e1123]
      exact g3 112 (by decide)
    exact JN_mk hc hm rfl rfl rfl rfl rfl ⟨Q, Qa, Qb, RST_set0 t hok.2.1.1, ⟨hg, LWS_v hl e4⟩, ⟨⟨hga, hla, hoa⟩, hgb, hlb, hob⟩, hik, hy, ⟨hcb, hcs, hcwd⟩, hrk, ⟨hpk, hpb⟩, h3, hkb, hcb2⟩
end Jn
