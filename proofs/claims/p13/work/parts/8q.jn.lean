/-! both sides of the calls together: what holds between them -/
/-- the class's world and the reference's -/
def INV (T : List im_T) : cw_X → (Nat → Int) → (Nat → Int → Int) → Prop
  | (xv, (lv, L, g), ik, (yv, yR, yg), (f, k, rw_), (cv, cb, cs, cwd), (rv, rb, rs_, (rcv, rcb, rcs, rcwd), rrw), (pv, (pcv, pb, ps, pwd), (sv, sR, sg), PR), (wq, wA, wu, wc, wk), fr, (av, aR, ag), (bv, bR, bg)), v, R => ∃ Q Qa Qb : Int → im_T, RST wA (xv 0) lv L Q f k rw_ fr (xv 12) (xv 13) (xv 14) (xv 15) ik (av, aR, Qa) (bv, bR, Qb) (xv 5) yv yR v R ∧ (GV g T ∧ LWS lv g T Q) ∧ ((GV ag T ∧ (ik 0 = 1 → LWS av ag T Qa) ∧ LOK av aR) ∧ (GV bg T ∧ (ik 1 = 1 → LWS bv bg T Qb) ∧ LOK bv bR)) ∧ (∀ i, ik i = 0 ∨ ik i = 1) ∧ LOK yv yR ∧ ((cb = 0 ∨ cb = 1) ∧ SOK cs ∧ WOK cwd) ∧ RKO rb rs_ rcb rcs rcwd rrw ∧ (PKO pb ps pwd sv sR PR ∧ PRB PR) ∧ (im_ir (wq 3) ∧ (∀ x, -1 ≤ wk x ∧ wk x ≤ 1000) ∧ (∀ x, 0 ≤ wc x ∧ wc x ≤ 100000))
/-- a call on both sides: one answer, and what holds is kept -/
def JN (ro : ab_R) (T : List im_T) (j8 j9 : Nat) (as : List im_V) (X : cw_X) (v : Nat → Int) (R : Nat → Int → Int) : Prop := ∃ (z : Int) (X' : cw_X) (v' : Nat → Int) (R' : Nat → Int → Int), im_ct ro T 110 j8 (mr 0 :: as) (CW X) (fun r w => r = some (.inl z) ∧ w = CW X') ∧ im_ct ro T 110 j9 (mr 0 :: as) (MW v R) (fun r w => r = some (.inl z) ∧ w = MW v' R') ∧ INV T X' v' R'
/-- two long answers, whatever they are -/
def JNL (ro : ab_R) (T : List im_T) (j8 j9 : Nat) (as : List im_V) (X : cw_X) (v : Nat → Int) (R : Nat → Int → Int) : Prop := ∃ (z z2 : Int) (X' : cw_X) (v' : Nat → Int) (R' : Nat → Int → Int), im_ct ro T 110 j8 (mr 0 :: as) (CW X) (fun r w => r = some (.inr (.inl z)) ∧ w = CW X') ∧ im_ct ro T 110 j9 (mr 0 :: as) (MW v R) (fun r w => r = some (.inr (.inl z2)) ∧ w = MW v' R') ∧ INV T X' v' R'
theorem JN_mk {ro : ab_R} {T : List im_T} {j8 j9 : Nat} {as : List im_V} {X X' : cw_X} {v v' : Nat → Int} {R R' : Nat → Int → Int} {r1 r2 : Option im_V} {w1 w2 : im_W} {z1 z2 : Int} (hc : im_ct ro T 110 j8 (mr 0 :: as) (CW X) (fun r w => r = r1 ∧ w = w1)) (hm : im_ct ro T 110 j9 (mr 0 :: as) (MW v R) (fun r w => r = r2 ∧ w = w2)) (e1 : r1 = some (.inl z1)) (e2 : r2 = some (.inl z2)) (f1 : w1 = CW X') (f2 : w2 = MW v' R') (ez : z2 = z1) (hI : INV T X' v' R') : JN ro T j8 j9 as X v R := by
  subst e1 e2 f1 f2 ez
  exact ⟨_, X', v', R', hc, hm, hI⟩
section Jw
variable {A : Int → Int} {tn : Int} {lv : Nat → Int} {L : Nat → Int → Int} {Q : Int → im_T} {f k : Int} {rw_ : Int → Int} {fr : Int → Int} {st fl sp sn : Int} {ik : Int → Int} {i0 i1 : (Nat → Int) × (Nat → Int → Int) × (Int → im_T)} {yk : Int} {yv : Nat → Int} {yR : Nat → Int → Int} {v v' : Nat → Int} {R R' : Nat → Int → Int}
theorem RST_c (h : RST A tn lv L Q f k rw_ fr st fl sp sn ik i0 i1 yk yv yR v R) {st' : Int} {fr' : Int → Int} (e : st' = st) (e2 : fr' = fr) : RST A tn lv L Q f k rw_ fr' st' fl sp sn ik i0 i1 yk yv yR v R := by
  subst e e2
  exact h
theorem RST_QZ (h : RST A tn lv L Q f k rw_ fr st fl sp sn ik i0 i1 yk yv yR v R) {v1 : Nat → Int} {R1 : Nat → Int → Int} (hq : QZ v R v1 R1) (h2 : ∀ i, 0 ≤ i → R1 2 i = R 2 i) : RST A tn lv L Q f k rw_ fr st fl sp sn ik i0 i1 yk yv yR v1 R1 := by
  refine RST_q h (fun i a _ => h2 i a) (fun j hj => ?_) (fun j hj => ?_)
  · simp only [List.mem_cons, List.not_mem_nil, or_false] at hj
    exact hq.1 j (by omega) (by omega) (by omega) (by omega) (by omega)
  · simp only [List.mem_cons, List.not_mem_nil, or_false] at hj
    exact hq.2 j (by omega) (by omega) (by omega) (by omega) (by omega)
theorem RST_QB (h : RST A tn lv L Q f k rw_ fr st fl sp sn ik i0 i1 yk yv yR v R) {w : im_W} (hq : QB v R w) : ∃ v1 R1, w = MW v1 R1 ∧ RST A tn lv L Q f k rw_ fr st fl sp sn ik i0 i1 yk yv yR v1 R1 := by
  obtain ⟨g, ge, b, o, c, a5, a, s, ov, rfl⟩ := hq
  refine ⟨_, _, rfl, RST_q h (fun i _ _ => rfl) (fun j hj => ?_) (fun j hj => ?_)⟩
  · simp only [List.mem_cons, List.not_mem_nil, or_false] at hj
    unfold EV4 pl_U
    rw [if_neg (by omega), if_neg (by omega), if_neg (by omega), if_neg (by omega), if_neg (by omega)]
  · simp only [List.mem_cons, List.not_mem_nil, or_false] at hj
    unfold pl_U
    rw [if_neg (by omega), if_neg (by omega), if_neg (by omega), if_neg (by omega), if_neg (by omega)]
theorem RST_21 (h : RST A tn lv L Q f k rw_ fr st fl sp sn ik i0 i1 yk yv yR v R) (W : Int → Int) : RST A tn lv L Q f k rw_ fr st fl sp sn ik i0 i1 yk yv yR v (pl_U R 21 W) := RST_q h (fun i _ _ => rfl) (fun _ _ => rfl) (fun j hj => by
  simp only [List.mem_cons, List.not_mem_nil, or_false] at hj
  unfold pl_U
  rw [if_neg (by omega)])
/-- a refusal on the class's side: what settle leaves -/
theorem RST_set0 (h : RST A tn lv L Q f k rw_ fr 0 fl sp sn ik i0 i1 yk yv yR v R) {x : Int} (hx : 0 ≤ x) : RST A tn lv L Q f k rw_ (cw_fr x fr) (if x < 0 then x else 0) fl sp sn ik i0 i1 yk yv yR v R := RST_c h (if_neg (by omega)) (cw_fr_nn hx fr)
theorem RST_ref (h : RST A tn lv L Q f k rw_ fr st fl sp sn ik i0 i1 yk yv yR v R) {x : Int} (hx : -6 ≤ x ∧ x < 0) : RST A tn lv L Q f k rw_ (cw_fr x fr) (if x < 0 then x else 0) fl sp sn ik i0 i1 yk yv yR (pl_U v 0 x) (kp_ref x R) := RST_c (RST_refu h hx) (if_pos hx.2) rfl
end Jw
section Jn
variable {ro : ab_R} {T : List im_T} {xv : Nat → Int} {lv : Nat → Int} {L : Nat → Int → Int} {g : Int → Option Nat} {ik : Int → Int} {yv : Nat → Int} {yR : Nat → Int → Int} {yg : Int → Option Nat} {f k : Int} {rw_ : Int → Int} {cv : Nat → Int} {cb : Int} {cs cwd : Int → Int} {rv rcv : Nat → Int} {rb rcb : Int} {rs_ rcs rcwd rrw : Int → Int} {pv pcv : Nat → Int} {pb : Int} {ps pwd : Int → Int} {sv : Nat → Int} {sR : Nat → Int → Int} {sg : Int → Option Nat} {PR : Nat → Int → Int} {wq : Nat → Int} {wA : Int → Int} {wu : Int × Int × Int} {wc wk : Int → Int} {fr : Int → Int} {av : Nat → Int} {aR : Nat → Int → Int} {ag : Int → Option Nat} {bv : Nat → Int} {bR : Nat → Int → Int} {bg : Int → Option Nat} {v : Nat → Int} {R : Nat → Int → Int}
set_option maxHeartbeats 4000000 in
theorem jn_status (hT : T.length < 1000) (h : INV T (xv, (lv, L, g), ik, (yv, yR, yg), (f, k, rw_), (cv, cb, cs, cwd), (rv, rb, rs_, (rcv, rcb, rcs, rcwd), rrw), (pv, (pcv, pb, ps, pwd), (sv, sR, sg), PR), (wq, wA, wu, wc, wk), fr, (av, aR, ag), (bv, bR, bg)) v R) : JN ro T 114 239 [] (xv, (lv, L, g), ik, (yv, yR, yg), (f, k, rw_), (cv, cb, cs, cwd), (rv, rb, rs_, (rcv, rcb, rcs, rcwd), rrw), (pv, (pcv, pb, ps, pwd), (sv, sR, sg), PR), (wq, wA, wu, wc, wk), fr, (av, aR, ag), (bv, bR, bg)) v R := by
  obtain ⟨Q, Qa, Qb, hS, ⟨hg, hl⟩, ⟨⟨hga, hla, hoa⟩, hgb, hlb, hob⟩, hik, hy, ⟨hcb, hcs, hcwd⟩, hrk, ⟨hpk, hpb⟩, h3, hkb, hcb2⟩ := h
  have hB := hS.1
  have hlo := hB.2.1
  have hday := hB.2.2.1
  have hlr := LWS_lwr hlo hl
  have ht := RST_TLS hS
  have h30 : v 30 = 0 := hS.2.1
  have hps := hS.2.2.2.2.1
  have hf16 := hps.1.1
  have hk16 := hps.1.2.1
  have e34 : v 34 = k := hps.1.2.2
  have h13 : v 13 = xv 0 := hS.2.2.1.2.1
  have hb0 : 0 ≤ xv 0 ∧ xv 0 ≤ 400 := hS.2.2.1.2.2
  have hc : im_ct ro T 110 114 [mr 0] (CW (xv, (lv, L, g), ik, (yv, yR, yg), (f, k, rw_), (cv, cb, cs, cwd), (rv, rb, rs_, (rcv, rcb, rcs, rcwd), rrw), (pv, (pcv, pb, ps, pwd), (sv, sR, sg), PR), (wq, wA, wu, wc, wk), fr, (av, aR, ag), (bv, bR, bg))) _ := cw_status (by decide) hT
  obtain ⟨r1, w1, hc, hq⟩ := im_ct_ex hc
  have hm : im_ct ro T 110 239 [mr 0] (MW v R) _ := m_status (by decide) hT
  obtain ⟨r2, w2, hm, hn⟩ := im_ct_ex hm
  obtain ⟨rfl, rfl⟩ := hq
  obtain ⟨rfl, rfl⟩ := hn
  exact JN_mk hc hm rfl rfl rfl rfl (hS.2.2.2.2.2.2.1.1) ⟨Q, Qa, Qb, hS, ⟨hg, hl⟩, ⟨⟨hga, hla, hoa⟩, hgb, hlb, hob⟩, hik, hy, ⟨hcb, hcs, hcwd⟩, hrk, ⟨hpk, hpb⟩, h3, hkb, hcb2⟩
set_option maxHeartbeats 4000000 in
theorem jn_stones (hT : T.length < 1000) (h : INV T (xv, (lv, L, g), ik, (yv, yR, yg), (f, k, rw_), (cv, cb, cs, cwd), (rv, rb, rs_, (rcv, rcb, rcs, rcwd), rrw), (pv, (pcv, pb, ps, pwd), (sv, sR, sg), PR), (wq, wA, wu, wc, wk), fr, (av, aR, ag), (bv, bR, bg)) v R) : JN ro T 87 143 [] (xv, (lv, L, g), ik, (yv, yR, yg), (f, k, rw_), (cv, cb, cs, cwd), (rv, rb, rs_, (rcv, rcb, rcs, rcwd), rrw), (pv, (pcv, pb, ps, pwd), (sv, sR, sg), PR), (wq, wA, wu, wc, wk), fr, (av, aR, ag), (bv, bR, bg)) v R := by
  obtain ⟨Q, Qa, Qb, hS, ⟨hg, hl⟩, ⟨⟨hga, hla, hoa⟩, hgb, hlb, hob⟩, hik, hy, ⟨hcb, hcs, hcwd⟩, hrk, ⟨hpk, hpb⟩, h3, hkb, hcb2⟩ := h
  have hB := hS.1
  have hlo := hB.2.1
  have hday := hB.2.2.1
  have hlr := LWS_lwr hlo hl
  have ht := RST_TLS hS
  have h30 : v 30 = 0 := hS.2.1
  have hps := hS.2.2.2.2.1
  have hf16 := hps.1.1
  have hk16 := hps.1.2.1
  have e34 : v 34 = k := hps.1.2.2
  have h13 : v 13 = xv 0 := hS.2.2.1.2.1
  have hb0 : 0 ≤ xv 0 ∧ xv 0 ≤ 400 := hS.2.2.1.2.2
  have hc : im_ct ro T 110 87 [mr 0] (CW (xv, (lv, L, g), ik, (yv, yR, yg), (f, k, rw_), (cv, cb, cs, cwd), (rv, rb, rs_, (rcv, rcb, rcs, rcwd), rrw), (pv, (pcv, pb, ps, pwd), (sv, sR, sg), PR), (wq, wA, wu, wc, wk), fr, (av, aR, ag), (bv, bR, bg))) _ := cw_stones (by decide) hT
  obtain ⟨r1, w1, hc, hq⟩ := im_ct_ex hc
  have hm : im_ct ro T 110 143 [mr 0] (MW v R) _ := m_stones (by decide) hT
  obtain ⟨r2, w2, hm, hn⟩ := im_ct_ex hm
  obtain ⟨rfl, rfl⟩ := hq
  obtain ⟨rfl, rfl⟩ := hn
  exact JN_mk hc hm rfl rfl rfl rfl (hS.2.2.2.2.2.2.1.2.2.2) ⟨Q, Qa, Qb, hS, ⟨hg, hl⟩, ⟨⟨hga, hla, hoa⟩, hgb, hlb, hob⟩, hik, hy, ⟨hcb, hcs, hcwd⟩, hrk, ⟨hpk, hpb⟩, h3, hkb, hcb2⟩
set_option maxHeartbeats 4000000 in
theorem jn_fault (hT : T.length < 1000) (h : INV T (xv, (lv, L, g), ik, (yv, yR, yg), (f, k, rw_), (cv, cb, cs, cwd), (rv, rb, rs_, (rcv, rcb, rcs, rcwd), rrw), (pv, (pcv, pb, ps, pwd), (sv, sR, sg), PR), (wq, wA, wu, wc, wk), fr, (av, aR, ag), (bv, bR, bg)) v R) : JN ro T 90 170 [] (xv, (lv, L, g), ik, (yv, yR, yg), (f, k, rw_), (cv, cb, cs, cwd), (rv, rb, rs_, (rcv, rcb, rcs, rcwd), rrw), (pv, (pcv, pb, ps, pwd), (sv, sR, sg), PR), (wq, wA, wu, wc, wk), fr, (av, aR, ag), (bv, bR, bg)) v R := by
  obtain ⟨Q, Qa, Qb, hS, ⟨hg, hl⟩, ⟨⟨hga, hla, hoa⟩, hgb, hlb, hob⟩, hik, hy, ⟨hcb, hcs, hcwd⟩, hrk, ⟨hpk, hpb⟩, h3, hkb, hcb2⟩ := h
  have hB := hS.1
  have hlo := hB.2.1
  have hday := hB.2.2.1
  have hlr := LWS_lwr hlo hl
  have ht := RST_TLS hS
  have h30 : v 30 = 0 := hS.2.1
  have hps := hS.2.2.2.2.1
  have hf16 := hps.1.1
  have hk16 := hps.1.2.1
  have e34 : v 34 = k := hps.1.2.2
  have h13 : v 13 = xv 0 := hS.2.2.1.2.1
  have hb0 : 0 ≤ xv 0 ∧ xv 0 ≤ 400 := hS.2.2.1.2.2
  have hc : im_ct ro T 110 90 [mr 0] (CW (xv, (lv, L, g), ik, (yv, yR, yg), (f, k, rw_), (cv, cb, cs, cwd), (rv, rb, rs_, (rcv, rcb, rcs, rcwd), rrw), (pv, (pcv, pb, ps, pwd), (sv, sR, sg), PR), (wq, wA, wu, wc, wk), fr, (av, aR, ag), (bv, bR, bg))) _ := cw_fault (by decide) hT
  obtain ⟨r1, w1, hc, hq⟩ := im_ct_ex hc
  have hm : im_ct ro T 110 170 [mr 0] (MW v R) _ := m_fault (by decide) hT
  obtain ⟨r2, w2, hm, hn⟩ := im_ct_ex hm
  obtain ⟨rfl, rfl⟩ := hq
  obtain ⟨rfl, rfl⟩ := hn
  exact JN_mk hc hm rfl rfl rfl rfl (hS.2.2.2.2.2.2.1.2.1) ⟨Q, Qa, Qb, hS, ⟨hg, hl⟩, ⟨⟨hga, hla, hoa⟩, hgb, hlb, hob⟩, hik, hy, ⟨hcb, hcs, hcwd⟩, hrk, ⟨hpk, hpb⟩, h3, hkb, hcb2⟩
set_option maxHeartbeats 4000000 in
theorem jn_stopped (hT : T.length < 1000) (h : INV T (xv, (lv, L, g), ik, (yv, yR, yg), (f, k, rw_), (cv, cb, cs, cwd), (rv, rb, rs_, (rcv, rcb, rcs, rcwd), rrw), (pv, (pcv, pb, ps, pwd), (sv, sR, sg), PR), (wq, wA, wu, wc, wk), fr, (av, aR, ag), (bv, bR, bg)) v R) : JN ro T 91 228 [] (xv, (lv, L, g), ik, (yv, yR, yg), (f, k, rw_), (cv, cb, cs, cwd), (rv, rb, rs_, (rcv, rcb, rcs, rcwd), rrw), (pv, (pcv, pb, ps, pwd), (sv, sR, sg), PR), (wq, wA, wu, wc, wk), fr, (av, aR, ag), (bv, bR, bg)) v R := by
  obtain ⟨Q, Qa, Qb, hS, ⟨hg, hl⟩, ⟨⟨hga, hla, hoa⟩, hgb, hlb, hob⟩, hik, hy, ⟨hcb, hcs, hcwd⟩, hrk, ⟨hpk, hpb⟩, h3, hkb, hcb2⟩ := h
  have hB := hS.1
  have hlo := hB.2.1
  have hday := hB.2.2.1
  have hlr := LWS_lwr hlo hl
  have ht := RST_TLS hS
  have h30 : v 30 = 0 := hS.2.1
  have hps := hS.2.2.2.2.1
  have hf16 := hps.1.1
  have hk16 := hps.1.2.1
  have e34 : v 34 = k := hps.1.2.2
  have h13 : v 13 = xv 0 := hS.2.2.1.2.1
  have hb0 : 0 ≤ xv 0 ∧ xv 0 ≤ 400 := hS.2.2.1.2.2
  have hc : im_ct ro T 110 91 [mr 0] (CW (xv, (lv, L, g), ik, (yv, yR, yg), (f, k, rw_), (cv, cb, cs, cwd), (rv, rb, rs_, (rcv, rcb, rcs, rcwd), rrw), (pv, (pcv, pb, ps, pwd), (sv, sR, sg), PR), (wq, wA, wu, wc, wk), fr, (av, aR, ag), (bv, bR, bg))) _ := cw_stopped (by decide) hT
  obtain ⟨r1, w1, hc, hq⟩ := im_ct_ex hc
  have hm : im_ct ro T 110 228 [mr 0] (MW v R) _ := m_stopped (by decide) hT
  obtain ⟨r2, w2, hm, hn⟩ := im_ct_ex hm
  obtain ⟨rfl, rfl⟩ := hq
  obtain ⟨rfl, rfl⟩ := hn
  exact JN_mk hc hm rfl rfl rfl rfl (hS.2.2.2.2.2.2.1.2.2.1) ⟨Q, Qa, Qb, hS, ⟨hg, hl⟩, ⟨⟨hga, hla, hoa⟩, hgb, hlb, hob⟩, hik, hy, ⟨hcb, hcs, hcwd⟩, hrk, ⟨hpk, hpb⟩, h3, hkb, hcb2⟩
set_option maxHeartbeats 4000000 in
theorem jn_forget (hT : T.length < 1000) (h : INV T (xv, (lv, L, g), ik, (yv, yR, yg), (f, k, rw_), (cv, cb, cs, cwd), (rv, rb, rs_, (rcv, rcb, rcs, rcwd), rrw), (pv, (pcv, pb, ps, pwd), (sv, sR, sg), PR), (wq, wA, wu, wc, wk), fr, (av, aR, ag), (bv, bR, bg)) v R) : JN ro T 104 219 [] (xv, (lv, L, g), ik, (yv, yR, yg), (f, k, rw_), (cv, cb, cs, cwd), (rv, rb, rs_, (rcv, rcb, rcs, rcwd), rrw), (pv, (pcv, pb, ps, pwd), (sv, sR, sg), PR), (wq, wA, wu, wc, wk), fr, (av, aR, ag), (bv, bR, bg)) v R := by
  obtain ⟨Q, Qa, Qb, hS, ⟨hg, hl⟩, ⟨⟨hga, hla, hoa⟩, hgb, hlb, hob⟩, hik, hy, ⟨hcb, hcs, hcwd⟩, hrk, ⟨hpk, hpb⟩, h3, hkb, hcb2⟩ := h
  have hB := hS.1
  have hlo := hB.2.1
  have hday := hB.2.2.1
  have hlr := LWS_lwr hlo hl
  have ht := RST_TLS hS
  have h30 : v 30 = 0 := hS.2.1
  have hps := hS.2.2.2.2.1
  have hf16 := hps.1.1
  have hk16 := hps.1.2.1
  have e34 : v 34 = k := hps.1.2.2
  have h13 : v 13 = xv 0 := hS.2.2.1.2.1
  have hb0 : 0 ≤ xv 0 ∧ xv 0 ≤ 400 := hS.2.2.1.2.2
  have hc : im_ct ro T 110 104 [mr 0] (CW (xv, (lv, L, g), ik, (yv, yR, yg), (f, k, rw_), (cv, cb, cs, cwd), (rv, rb, rs_, (rcv, rcb, rcs, rcwd), rrw), (pv, (pcv, pb, ps, pwd), (sv, sR, sg), PR), (wq, wA, wu, wc, wk), fr, (av, aR, ag), (bv, bR, bg))) _ := cw_forget (by decide) hT
  obtain ⟨r1, w1, hc, hq⟩ := im_ct_ex hc
  have hm : im_ct ro T 110 219 [mr 0] (MW v R) _ := m_forget (by decide) hT
  obtain ⟨r2, w2, hm, hn⟩ := im_ct_ex hm
  obtain ⟨rfl, rfl⟩ := hq
  obtain ⟨rfl, rfl⟩ := hn
  exact JN_mk hc hm rfl rfl rfl rfl hB.1.1.2.2.2.1 ⟨Q, Qa, Qb, RST_forget hS, ⟨hg, LWS_v hl rfl⟩, ⟨⟨hga, hla, hoa⟩, hgb, hlb, hob⟩, hik, hy, ⟨hcb, hcs, hcwd⟩, hrk, ⟨hpk, hpb⟩, h3, hkb, hcb2⟩
set_option maxHeartbeats 4000000 in
theorem jn_force (hT : T.length < 1000) (h : INV T (xv, (lv, L, g), ik, (yv, yR, yg), (f, k, rw_), (cv, cb, cs, cwd), (rv, rb, rs_, (rcv, rcb, rcs, rcwd), rrw), (pv, (pcv, pb, ps, pwd), (sv, sR, sg), PR), (wq, wA, wu, wc, wk), fr, (av, aR, ag), (bv, bR, bg)) v R) {n : Int} (h_n : im_ir n) : JN ro T 92 171 [.inl n] (xv, (lv, L, g), ik, (yv, yR, yg), (f, k, rw_), (cv, cb, cs, cwd), (rv, rb, rs_, (rcv, rcb, rcs, rcwd), rrw), (pv, (pcv, pb, ps, pwd), (sv, sR, sg), PR), (wq, wA, wu, wc, wk), fr, (av, aR, ag), (bv, bR, bg)) v R := by
  obtain ⟨Q, Qa, Qb, hS, ⟨hg, hl⟩, ⟨⟨hga, hla, hoa⟩, hgb, hlb, hob⟩, hik, hy, ⟨hcb, hcs, hcwd⟩, hrk, ⟨hpk, hpb⟩, h3, hkb, hcb2⟩ := h
  have hB := hS.1
  have hlo := hB.2.1
  have hday := hB.2.2.1
  have hlr := LWS_lwr hlo hl
  have ht := RST_TLS hS
  have h30 : v 30 = 0 := hS.2.1
  have hps := hS.2.2.2.2.1
  have hf16 := hps.1.1
  have hk16 := hps.1.2.1
  have e34 : v 34 = k := hps.1.2.2
  have h13 : v 13 = xv 0 := hS.2.2.1.2.1
  have hb0 : 0 ≤ xv 0 ∧ xv 0 ≤ 400 := hS.2.2.1.2.2
  have e112 : R 2 112 = lv 4 := hB.1.1.2.2.2.2.1
  have e113 : R 2 113 = lv 5 := hB.1.1.2.2.2.2.2
  have hlw := lk_law hlo
  have hc : im_ct ro T 110 92 [mr 0, .inl n] (CW (xv, (lv, L, g), ik, (yv, yR, yg), (f, k, rw_), (cv, cb, cs, cwd), (rv, rb, rs_, (rcv, rcb, rcs, rcwd), rrw), (pv, (pcv, pb, ps, pwd), (sv, sR, sg), PR), (wq, wA, wu, wc, wk), fr, (av, aR, ag), (bv, bR, bg))) _ := cw_force (by decide) hT hlo h_n
  obtain ⟨r1, w1, hc, hq⟩ := im_ct_ex hc
  have hm : im_ct ro T 110 171 [mr 0, .inl n] (MW v R) _ := m_force (by decide) hT h_n (by omega)
  obtain ⟨r2, w2, hm, hn⟩ := im_ct_ex hm
  obtain ⟨rfl, rfl⟩ := hn
  by_cases c : -1 ≤ n ∧ n < lv 4
  · obtain ⟨rfl, rfl⟩ := hq.1 c
    have ek : km_force n v R = (R 2 113, pl_U v 0 0, pl_U R 2 (im_up (R 2) 113 n)) := if_pos (by omega)
    rw [ek] at hm
    exact JN_mk hc hm rfl rfl rfl rfl e113 ⟨Q, Qa, Qb, RST_force hS c, ⟨hg, LWS_v hl rfl⟩, ⟨⟨hga, hla, hoa⟩, hgb, hlb, hob⟩, hik, hy, ⟨hcb, hcs, hcwd⟩, hrk, ⟨hpk, hpb⟩, h3, hkb, hcb2⟩
  · obtain ⟨rfl, rfl⟩ := hq.2 c
    have ek : km_force n v R = km_refu (-2) v R := if_neg (by omega)
    rw [ek] at hm
    exact JN_mk hc hm rfl rfl rfl rfl rfl ⟨Q, Qa, Qb, RST_ref hS (by decide), ⟨hg, hl⟩, ⟨⟨hga, hla, hoa⟩, hgb, hlb, hob⟩, hik, hy, ⟨hcb, hcs, hcwd⟩, hrk, ⟨hpk, hpb⟩, h3, hkb, hcb2⟩
set_option maxHeartbeats 4000000 in
theorem jn_hear (hT : T.length < 1000) (h : INV T (xv, (lv, L, g), ik, (yv, yR, yg), (f, k, rw_), (cv, cb, cs, cwd), (rv, rb, rs_, (rcv, rcb, rcs, rcwd), rrw), (pv, (pcv, pb, ps, pwd), (sv, sR, sg), PR), (wq, wA, wu, wc, wk), fr, (av, aR, ag), (bv, bR, bg)) v R) {p : Int} (h_p : im_ir p) {ov : Int} (h_ov : im_ir ov) : JN ro T 103 218 [.inl p, .inl ov] (xv, (lv, L, g), ik, (yv, yR, yg), (f, k, rw_), (cv, cb, cs, cwd), (rv, rb, rs_, (rcv, rcb, rcs, rcwd), rrw), (pv, (pcv, pb, ps, pwd), (sv, sR, sg), PR), (wq, wA, wu, wc, wk), fr, (av, aR, ag), (bv, bR, bg)) v R := by
  obtain ⟨Q, Qa, Qb, hS, ⟨hg, hl⟩, ⟨⟨hga, hla, hoa⟩, hgb, hlb, hob⟩, hik, hy, ⟨hcb, hcs, hcwd⟩, hrk, ⟨hpk, hpb⟩, h3, hkb, hcb2⟩ := h
  have hB := hS.1
  have hlo := hB.2.1
  have hday := hB.2.2.1
  have hlr := LWS_lwr hlo hl
  have ht := RST_TLS hS
  have h30 : v 30 = 0 := hS.2.1
  have hps := hS.2.2.2.2.1
  have hf16 := hps.1.1
  have hk16 := hps.1.2.1
  have e34 : v 34 = k := hps.1.2.2
  have h13 : v 13 = xv 0 := hS.2.2.1.2.1
  have hb0 : 0 ≤ xv 0 ∧ xv 0 ≤ 400 := hS.2.2.1.2.2
  have e110 : R 2 110 = lv 0 := hB.1.1.1
  have e111 : R 2 111 = lv 3 := hB.1.1.2.2.2.1
  have hpar := lk_par hlo
  have hhr := lk_hrd hlo
  have hc : im_ct ro T 110 103 [mr 0, .inl p, .inl ov] (CW (xv, (lv, L, g), ik, (yv, yR, yg), (f, k, rw_), (cv, cb, cs, cwd), (rv, rb, rs_, (rcv, rcb, rcs, rcwd), rrw), (pv, (pcv, pb, ps, pwd), (sv, sR, sg), PR), (wq, wA, wu, wc, wk), fr, (av, aR, ag), (bv, bR, bg))) _ := cw_hear (by decide) hT hlo h_p h_ov
  obtain ⟨r1, w1, hc, hq⟩ := im_ct_ex hc
  have hm : im_ct ro T 110 218 [mr 0, .inl p, .inl ov] (MW v R) _ := m_hear (by decide) hT h_p h_ov (by omega) (by omega)
  obtain ⟨r2, w2, hm, hn⟩ := im_ct_ex hm
  obtain ⟨rfl, rfl⟩ := hn
  obtain ⟨q1, q2, q3, q4⟩ := hq
  by_cases c1 : 0 ≤ ov ∧ ov ≤ 98
  · by_cases c2 : 0 ≤ p ∧ p < lv 0
    · by_cases c3 : lv 3 = 8
      · obtain ⟨rfl, rfl⟩ := q3 ⟨c1, c2, c3⟩
        have ek : km_hear p ov v R = km_refu (-5) v R := by
          unfold km_hear
          rw [if_pos c1, if_pos (by omega), if_pos (by omega)]
        rw [ek] at hm
        exact JN_mk hc hm rfl rfl rfl rfl rfl ⟨Q, Qa, Qb, RST_ref hS (by decide), ⟨hg, hl⟩, ⟨⟨hga, hla, hoa⟩, hgb, hlb, hob⟩, hik, hy, ⟨hcb, hcs, hcwd⟩, hrk, ⟨hpk, hpb⟩, h3, hkb, hcb2⟩
      · obtain ⟨rfl, rfl⟩ := q4 ⟨c1, c2, by omega⟩
        have ek : km_hear p ov v R = (R 2 111 + 1, pl_U v 0 0, pl_U R 2 (kp_hear p ov (R 2))) := by
          unfold km_hear
          rw [if_pos c1, if_pos (by omega), if_neg (by omega)]
        rw [ek] at hm
        exact JN_mk hc hm rfl rfl rfl rfl (by rw [e111]) ⟨Q, Qa, Qb, RST_set0 (RST_hear hS (by omega) c2 c1) (by omega), ⟨hg, LWS_v hl rfl⟩, ⟨⟨hga, hla, hoa⟩, hgb, hlb, hob⟩, hik, hy, ⟨hcb, hcs, hcwd⟩, hrk, ⟨hpk, hpb⟩, h3, hkb, hcb2⟩
    · obtain ⟨rfl, rfl⟩ := q2 ⟨c1, c2⟩
      have ek : km_hear p ov v R = km_refu (-2) v R := by
        unfold km_hear
        rw [if_pos c1, if_neg (by omega)]
      rw [ek] at hm
      exact JN_mk hc hm rfl rfl rfl rfl rfl ⟨Q, Qa, Qb, RST_ref hS (by decide), ⟨hg, hl⟩, ⟨⟨hga, hla, hoa⟩, hgb, hlb, hob⟩, hik, hy, ⟨hcb, hcs, hcwd⟩, hrk, ⟨hpk, hpb⟩, h3, hkb, hcb2⟩
  · obtain ⟨rfl, rfl⟩ := q1 c1
    have ek : km_hear p ov v R = km_refu (-1) v R := if_neg c1
    rw [ek] at hm
    exact JN_mk hc hm rfl rfl rfl rfl rfl ⟨Q, Qa, Qb, RST_ref hS (by decide), ⟨hg, hl⟩, ⟨⟨hga, hla, hoa⟩, hgb, hlb, hob⟩, hik, hy, ⟨hcb, hcs, hcwd⟩, hrk, ⟨hpk, hpb⟩, h3, hkb, hcb2⟩
set_option maxHeartbeats 4000000 in
theorem jn_parish (hT : T.length < 1000) (h : INV T (xv, (lv, L, g), ik, (yv, yR, yg), (f, k, rw_), (cv, cb, cs, cwd), (rv, rb, rs_, (rcv, rcb, rcs, rcwd), rrw), (pv, (pcv, pb, ps, pwd), (sv, sR, sg), PR), (wq, wA, wu, wc, wk), fr, (av, aR, ag), (bv, bR, bg)) v R) {u : Int} (h_u : im_ir u) {c : Int} (h_c : im_ir c) : JN ro T 80 136 [.inl u, .inl c] (xv, (lv, L, g), ik, (yv, yR, yg), (f, k, rw_), (cv, cb, cs, cwd), (rv, rb, rs_, (rcv, rcb, rcs, rcwd), rrw), (pv, (pcv, pb, ps, pwd), (sv, sR, sg), PR), (wq, wA, wu, wc, wk), fr, (av, aR, ag), (bv, bR, bg)) v R := by
  obtain ⟨Q, Qa, Qb, hS, ⟨hg, hl⟩, ⟨⟨hga, hla, hoa⟩, hgb, hlb, hob⟩, hik, hy, ⟨hcb, hcs, hcwd⟩, hrk, ⟨hpk, hpb⟩, h3, hkb, hcb2⟩ := h
  have hB := hS.1
  have hlo := hB.2.1
  have hday := hB.2.2.1
  have hlr := LWS_lwr hlo hl
  have ht := RST_TLS hS
  have h30 : v 30 = 0 := hS.2.1
  have hps := hS.2.2.2.2.1
  have hf16 := hps.1.1
  have hk16 := hps.1.2.1
  have e34 : v 34 = k := hps.1.2.2
  have h13 : v 13 = xv 0 := hS.2.2.1.2.1
  have hb0 : 0 ≤ xv 0 ∧ xv 0 ≤ 400 := hS.2.2.1.2.2
  have e110 : R 2 110 = lv 0 := hB.1.1.1
  have hpar := lk_par hlo
  have hc : im_ct ro T 110 80 [mr 0, .inl u, .inl c] (CW (xv, (lv, L, g), ik, (yv, yR, yg), (f, k, rw_), (cv, cb, cs, cwd), (rv, rb, rs_, (rcv, rcb, rcs, rcwd), rrw), (pv, (pcv, pb, ps, pwd), (sv, sR, sg), PR), (wq, wA, wu, wc, wk), fr, (av, aR, ag), (bv, bR, bg))) _ := cw_parish (by decide) hT hlo h_u h_c
  obtain ⟨r1, w1, hc, hq⟩ := im_ct_ex hc
  have hm : im_ct ro T 110 136 [mr 0, .inl u, .inl c] (MW v R) _ := m_parish (by decide) hT h_u h_c (by omega)
  obtain ⟨r2, w2, hm, hn⟩ := im_ct_ex hm
  obtain ⟨rfl, rfl⟩ := hn
  obtain ⟨q1, q2⟩ := hq
  by_cases c1 : (-1 ≤ u ∧ u < lv 0) ∧ 0 ≤ c ∧ c ≤ 999
  · by_cases c2 : lv 0 = 10
    · have ea : pl_add u c lv L = (-5, lv, L) := by
        unfold pl_add
        rw [if_neg (by omega), if_pos (by omega)]
      rw [ea] at q1
      obtain ⟨rfl, rfl⟩ := q1 (show (-5 : Int) < 0 by decide)
      have ek : km_parish u c v R = km_refu (-5) v R := by
        unfold km_parish
        rw [if_pos (by omega), if_pos (by omega)]
        rfl
      rw [ek] at hm
      exact JN_mk hc hm rfl rfl rfl rfl rfl ⟨Q, Qa, Qb, RST_ref hS (x := -5) (by decide), ⟨hg, hl⟩, ⟨⟨hga, hla, hoa⟩, hgb, hlb, hob⟩, hik, hy, ⟨hcb, hcs, hcwd⟩, hrk, ⟨hpk, hpb⟩, h3, hkb, hcb2⟩
    · obtain ⟨a1, a2, a3⟩ := RST_add hS c1.1 c1.2 (by omega)
      obtain ⟨rfl, rfl⟩ := q2 (by omega)
      have ek : km_parish u c v R = (R 2 110, pl_U (pl_U v 34 0) 0 0, pl_U R 2 (kp_add u c (R 2))) := by
        unfold km_parish
        rw [if_pos (by omega), if_neg (by omega)]
      rw [ek] at hm
      have e4 : (pl_add u c lv L).2.1 4 = lv 4 := by
        unfold pl_add
        rw [if_neg (by omega), if_neg (by omega)]
        rfl
      exact JN_mk hc hm rfl rfl rfl rfl (a2.trans a1.symm) ⟨Q, Qa, Qb, RST_set0 a3 (by omega), ⟨hg, LWS_v hl e4⟩, ⟨⟨hga, hla, hoa⟩, hgb, hlb, hob⟩, hik, hy, ⟨hcb, hcs, hcwd⟩, hrk, ⟨hpk, hpb⟩, h3, hkb, hcb2⟩
  · have ea : pl_add u c lv L = (-1, lv, L) := if_pos (by omega)
    rw [ea] at q1
    obtain ⟨rfl, rfl⟩ := q1 (show (-1 : Int) < 0 by decide)
    have ek : km_parish u c v R = km_refu (-1) v R := if_neg (by omega)
    rw [ek] at hm
    exact JN_mk hc hm rfl rfl rfl rfl rfl ⟨Q, Qa, Qb, RST_ref hS (x := -1) (by decide), ⟨hg, hl⟩, ⟨⟨hga, hla, hoa⟩, hgb, hlb, hob⟩, hik, hy, ⟨hcb, hcs, hcwd⟩, hrk, ⟨hpk, hpb⟩, h3, hkb, hcb2⟩
theorem jn_grp {K : Int → Int} {lv : Nat → Int} {L : Nat → Int → Int} (h : KR K lv L) (n a : Int) : (if (0 ≤ n ∧ n ≤ K 68 - 1) ∧ (0 ≤ a ∧ a ≤ 2) then K (20 + 3 * n + a) else -1) = cw_grp n a lv L := by
  obtain ⟨-, h1, h2⟩ := KR_X h
  unfold cw_grp
  by_cases c : 0 ≤ n ∧ n < lv 1
  · obtain ⟨g1, g2, g3⟩ := h2 n c.1 c.2
    rw [if_pos c]
    by_cases c0 : a = 0
    · subst c0
      rw [if_pos (by omega), if_pos rfl, Int.add_zero]
      exact g1
    · rw [if_neg c0]
      by_cases c1 : a = 1
      · subst c1
        rw [if_pos (by omega), if_pos rfl]
        exact g2
      · rw [if_neg c1]
        by_cases c2 : a = 2
        · subst c2
          rw [if_pos (by omega), if_pos rfl]
          exact g3
        · rw [if_neg c2, if_neg (by omega)]
  · rw [if_neg c, if_neg (by omega)]
set_option maxHeartbeats 4000000 in
theorem jn_group (hT : T.length < 1000) (h : INV T (xv, (lv, L, g), ik, (yv, yR, yg), (f, k, rw_), (cv, cb, cs, cwd), (rv, rb, rs_, (rcv, rcb, rcs, rcwd), rrw), (pv, (pcv, pb, ps, pwd), (sv, sR, sg), PR), (wq, wA, wu, wc, wk), fr, (av, aR, ag), (bv, bR, bg)) v R) {n : Int} (h_n : im_ir n) {a : Int} (h_a : im_ir a) : JN ro T 82 139 [.inl n, .inl a] (xv, (lv, L, g), ik, (yv, yR, yg), (f, k, rw_), (cv, cb, cs, cwd), (rv, rb, rs_, (rcv, rcb, rcs, rcwd), rrw), (pv, (pcv, pb, ps, pwd), (sv, sR, sg), PR), (wq, wA, wu, wc, wk), fr, (av, aR, ag), (bv, bR, bg)) v R := by
  obtain ⟨Q, Qa, Qb, hS, ⟨hg, hl⟩, ⟨⟨hga, hla, hoa⟩, hgb, hlb, hob⟩, hik, hy, ⟨hcb, hcs, hcwd⟩, hrk, ⟨hpk, hpb⟩, h3, hkb, hcb2⟩ := h
  have hB := hS.1
  have hlo := hB.2.1
  have hday := hB.2.2.1
  have hlr := LWS_lwr hlo hl
  have ht := RST_TLS hS
  have h30 : v 30 = 0 := hS.2.1
  have hps := hS.2.2.2.2.1
  have hf16 := hps.1.1
  have hk16 := hps.1.2.1
  have e34 : v 34 = k := hps.1.2.2
  have h13 : v 13 = xv 0 := hS.2.2.1.2.1
  have hb0 : 0 ≤ xv 0 ∧ xv 0 ≤ 400 := hS.2.2.1.2.2
  have e68 : R 2 68 = lv 1 := hB.1.1.2.1
  have hgr := lk_grp hlo
  have hc : im_ct ro T 110 82 [mr 0, .inl n, .inl a] (CW (xv, (lv, L, g), ik, (yv, yR, yg), (f, k, rw_), (cv, cb, cs, cwd), (rv, rb, rs_, (rcv, rcb, rcs, rcwd), rrw), (pv, (pcv, pb, ps, pwd), (sv, sR, sg), PR), (wq, wA, wu, wc, wk), fr, (av, aR, ag), (bv, bR, bg))) _ := cw_group (by decide) hT hlo h_n h_a
  obtain ⟨r1, w1, hc, hq⟩ := im_ct_ex hc
  have hm : im_ct ro T 110 139 [mr 0, .inl n, .inl a] (MW v R) _ := m_group (by decide) hT h_n h_a (by omega)
  obtain ⟨r2, w2, hm, hn⟩ := im_ct_ex hm
  obtain ⟨rfl, rfl⟩ := hq
  obtain ⟨rfl, rfl⟩ := hn
  exact JN_mk hc hm rfl rfl rfl rfl (jn_grp hB.1 n a) ⟨Q, Qa, Qb, hS, ⟨hg, hl⟩, ⟨⟨hga, hla, hoa⟩, hgb, hlb, hob⟩, hik, hy, ⟨hcb, hcs, hcwd⟩, hrk, ⟨hpk, hpb⟩, h3, hkb, hcb2⟩
theorem te_ti (t x : Int) : ti_ok t x = true ↔ (0 ≤ t ∧ t < 4) ∧ te_lo t ≤ x ∧ x ≤ te_hi t := by
  have e : ti_ok t x = true ↔ ((t = 0 ∧ 0 ≤ x ∧ x ≤ 999) ∨ (t = 1 ∧ 2 ≤ x ∧ x ≤ 99) ∨ (t = 2 ∧ 0 ≤ x ∧ x ≤ 10) ∨ (t = 3 ∧ 0 ≤ x ∧ x ≤ 9)) := ⟨fun h => of_decide_eq_true h, fun h => decide_eq_true h⟩
  rw [e]
  unfold te_lo te_hi
  constructor
  · intro h
    rcases h with ⟨rfl, h⟩ | ⟨rfl, h⟩ | ⟨rfl, h⟩ | ⟨rfl, h⟩ <;> exact ⟨by decide, h⟩
  · rintro ⟨h1, h2⟩
    have hk : t = 0 ∨ t = 1 ∨ t = 2 ∨ t = 3 := by omega
    rcases hk with rfl | rfl | rfl | rfl
    · exact Or.inl ⟨rfl, h2⟩
    · exact Or.inr (Or.inl ⟨rfl, h2⟩)
    · exact Or.inr (Or.inr (Or.inl ⟨rfl, h2⟩))
    · exact Or.inr (Or.inr (Or.inr ⟨rfl, h2⟩))
set_option maxHeartbeats 4000000 in
theorem jn_terms (hT : T.length < 1000) (h : INV T (xv, (lv, L, g), ik, (yv, yR, yg), (f, k, rw_), (cv, cb, cs, cwd), (rv, rb, rs_, (rcv, rcb, rcs, rcwd), rrw), (pv, (pcv, pb, ps, pwd), (sv, sR, sg), PR), (wq, wA, wu, wc, wk), fr, (av, aR, ag), (bv, bR, bg)) v R) (hr1 : ro 1 = some (4, ab_tl)) (hr2 : ro 2 = some (4, ab_tm)) {t : Int} (h_t : im_ir t) {x : Int} (h_x : im_ir x) : JN ro T 83 141 [.inl t, .inl x] (xv, (lv, L, g), ik, (yv, yR, yg), (f, k, rw_), (cv, cb, cs, cwd), (rv, rb, rs_, (rcv, rcb, rcs, rcwd), rrw), (pv, (pcv, pb, ps, pwd), (sv, sR, sg), PR), (wq, wA, wu, wc, wk), fr, (av, aR, ag), (bv, bR, bg)) v R := by
  obtain ⟨Q, Qa, Qb, hS, ⟨hg, hl⟩, ⟨⟨hga, hla, hoa⟩, hgb, hlb, hob⟩, hik, hy, ⟨hcb, hcs, hcwd⟩, hrk, ⟨hpk, hpb⟩, h3, hkb, hcb2⟩ := h
  have hB := hS.1
  have hlo := hB.2.1
  have hday := hB.2.2.1
  have hlr := LWS_lwr hlo hl
  have ht := RST_TLS hS
  have h30 : v 30 = 0 := hS.2.1
  have hps := hS.2.2.2.2.1
  have hf16 := hps.1.1
  have hk16 := hps.1.2.1
  have e34 : v 34 = k := hps.1.2.2
  have h13 : v 13 = xv 0 := hS.2.2.1.2.1
  have hb0 : 0 ≤ xv 0 ∧ xv 0 ≤ 400 := hS.2.2.1.2.2
  have hc : im_ct ro T 110 83 [mr 0, .inl t, .inl x] (CW (xv, (lv, L, g), ik, (yv, yR, yg), (f, k, rw_), (cv, cb, cs, cwd), (rv, rb, rs_, (rcv, rcb, rcs, rcwd), rrw), (pv, (pcv, pb, ps, pwd), (sv, sR, sg), PR), (wq, wA, wu, wc, wk), fr, (av, aR, ag), (bv, bR, bg))) _ := cw_terms (by decide) hT hr1 hr2 hlo hday h_t h_x
  obtain ⟨r1, w1, hc, hq⟩ := im_ct_ex hc
  have hm : im_ct ro T 110 141 [mr 0, .inl t, .inl x] (MW v R) _ := m_terms (by decide) hT h_t h_x
  obtain ⟨r2, w2, hm, hn⟩ := im_ct_ex hm
  obtain ⟨rfl, rfl⟩ := hn
  obtain ⟨q1, q2⟩ := hq
  by_cases c : (0 ≤ t ∧ t < 4) ∧ te_lo t ≤ x ∧ x ≤ te_hi t
  · obtain ⟨rfl, rfl⟩ := q2 c
    have ok := (te_ti t x).mpr c
    obtain ⟨a1, a2⟩ := RST_terms hS ok
    have ek : km_terms t x v R = (R 2 (ti_at t), pl_U (pl_U v 34 0) 0 0, pl_U R 2 (im_up (R 2) (ti_at t) x)) := if_pos ok
    rw [ek] at hm
    have h0 : 0 ≤ L 7 t := by
      have htm := lk_trm hlo
      have hk : t = 0 ∨ t = 1 ∨ t = 2 ∨ t = 3 := by omega
      rcases hk with rfl | rfl | rfl | rfl <;> omega
    exact JN_mk hc hm rfl rfl rfl rfl a1 ⟨Q, Qa, Qb, RST_set0 a2 h0, ⟨hg, LWS_v hl rfl⟩, ⟨⟨hga, hla, hoa⟩, hgb, hlb, hob⟩, hik, hy, ⟨hcb, hcs, hcwd⟩, hrk, ⟨hpk, hpb⟩, h3, hkb, hcb2⟩
  · obtain ⟨rfl, rfl⟩ := q1 c
    have ek : km_terms t x v R = km_refu (-1) v R := if_neg (fun z => c ((te_ti t x).mp z))
    rw [ek] at hm
    exact JN_mk hc hm rfl rfl rfl rfl rfl ⟨Q, Qa, Qb, RST_ref hS (by decide), ⟨hg, hl⟩, ⟨⟨hga, hla, hoa⟩, hgb, hlb, hob⟩, hik, hy, ⟨hcb, hcs, hcwd⟩, hrk, ⟨hpk, hpb⟩, h3, hkb, hcb2⟩
set_option maxHeartbeats 4000000 in
theorem jn_count (hT : T.length < 1000) (h : INV T (xv, (lv, L, g), ik, (yv, yR, yg), (f, k, rw_), (cv, cb, cs, cwd), (rv, rb, rs_, (rcv, rcb, rcs, rcwd), rrw), (pv, (pcv, pb, ps, pwd), (sv, sR, sg), PR), (wq, wA, wu, wc, wk), fr, (av, aR, ag), (bv, bR, bg)) v R) {a : Int} (h_a : im_ir a) : JN ro T 113 238 [.inl a] (xv, (lv, L, g), ik, (yv, yR, yg), (f, k, rw_), (cv, cb, cs, cwd), (rv, rb, rs_, (rcv, rcb, rcs, rcwd), rrw), (pv, (pcv, pb, ps, pwd), (sv, sR, sg), PR), (wq, wA, wu, wc, wk), fr, (av, aR, ag), (bv, bR, bg)) v R := by
  obtain ⟨Q, Qa, Qb, hS, ⟨hg, hl⟩, ⟨⟨hga, hla, hoa⟩, hgb, hlb, hob⟩, hik, hy, ⟨hcb, hcs, hcwd⟩, hrk, ⟨hpk, hpb⟩, h3, hkb, hcb2⟩ := h
  have hB := hS.1
  have hlo := hB.2.1
  have hday := hB.2.2.1
  have hlr := LWS_lwr hlo hl
  have ht := RST_TLS hS
  have h30 : v 30 = 0 := hS.2.1
  have hps := hS.2.2.2.2.1
  have hf16 := hps.1.1
  have hk16 := hps.1.2.1
  have e34 : v 34 = k := hps.1.2.2
  have h13 : v 13 = xv 0 := hS.2.2.1.2.1
  have hb0 : 0 ≤ xv 0 ∧ xv 0 ≤ 400 := hS.2.2.1.2.2
  have hc : im_ct ro T 110 113 [mr 0, .inl a] (CW (xv, (lv, L, g), ik, (yv, yR, yg), (f, k, rw_), (cv, cb, cs, cwd), (rv, rb, rs_, (rcv, rcb, rcs, rcwd), rrw), (pv, (pcv, pb, ps, pwd), (sv, sR, sg), PR), (wq, wA, wu, wc, wk), fr, (av, aR, ag), (bv, bR, bg))) _ := cw_count (by decide) hT hlo h_a
  obtain ⟨r1, w1, hc, hq⟩ := im_ct_ex hc
  have hm : im_ct ro T 110 238 [mr 0, .inl a] (MW v R) _ := m_count (by decide) hT hB.1 hlo h_a
  obtain ⟨r2, w2, hm, hn⟩ := im_ct_ex hm
  obtain ⟨rfl, rfl⟩ := hq
  obtain ⟨rfl, rfl⟩ := hn
  obtain ⟨f1, f2, f3, f5, f6⟩ := hS.2.2.2.2.2.1
  have ez : cn_ans v (R 1) lv L a = cw_cnt (xv 0) k fr lv L a := by
    unfold cn_ans cw_cnt
    rw [e34, h13, f1, f2, f3, f5, f6]
  exact JN_mk hc hm rfl rfl rfl rfl ez ⟨Q, Qa, Qb, hS, ⟨hg, hl⟩, ⟨⟨hga, hla, hoa⟩, hgb, hlb, hob⟩, hik, hy, ⟨hcb, hcs, hcwd⟩, hrk, ⟨hpk, hpb⟩, h3, hkb, hcb2⟩
end Jn
