/-! the class's calls: orders -/
theorem ru_c_b {lw : Option im_T} {q : im_T} : ∀ (n : Nat) (c : Int) (z : ru_S) (x : Int), (ru_c lw q n c z).1 = some x → c ≤ x ∧ x < c + n
  | 0, c, z, x, h => by cases h
  | n + 1, c, z, x, h => by
    have e : ru_c lw q (n + 1) c z = if (ru_t lw q c (ru_n q c) z).1 = true then (some c, (ru_t lw q c (ru_n q c) z).2) else ru_c lw q n (c + 1) (ru_t lw q c (ru_n q c) z).2 := rfl
    rw [e] at h
    split at h
    · cases h
      omega
    · have t := ru_c_b n (c + 1) _ x h
      omega
/-- the reader, told with its latest number in bounds -/
theorem im_ofI (x : Int) : Int32.ofInt (Int32.ofInt x).toInt = Int32.ofInt x := Int32.ofInt_toInt _
theorem im_irT (z : Int32) : im_ir z.toInt := ⟨Int32.le_toInt z, Int32.toInt_lt z⟩
theorem c_readq {ro : ab_R} {T : List im_T} {d : Nat} {q : Nat → Int} {A c k : Int → Int} {u : Int × Int × Int} (hd : 80 ≤ d) (hT : T.length < 1000) (hA : tk_ok A) {N : Int} (hN : 0 ≤ N ∧ N ≤ 400) {od : Bool} {n : Nat} {rs : Int ⊕ List dC} (hall : d_all od (tk_C A N) (tk_X A N) n (tk_nt A N) = some rs) (hk : ∀ x, -1 ≤ k x ∧ k x ≤ 1000) (hc : ∀ x, 0 ≤ c x ∧ c x ≤ 100000) (h3 : im_ir (q 3)) : im_ct ro T d 43 [mr 0, .inl N, .inl (e_bi od)] (RW 0 q A u c k) (fun r w => ∃ q' u' c' k', w = RW 0 q' A u' c' k' ∧ im_ir (q' 3) ∧ RdF od A N rs r u' c' k') := by
  obtain ⟨v, w1, hE, hl, q', u', c', k', rfl, hR⟩ := c_read (ro := ro) (q := q) (u := u) hd hT hA hN hall hk hc h3
  have e := im_ofI (q' 3)
  have ew : im_w 5 T (RW 0 q' A u' c' k') = im_w 5 T (RW 0 (pl_U q' 3 (Int32.ofInt (q' 3)).toInt) A u' c' k') := congrArg (fun z : Int32 => ((Sum.inr (5, [Value.ref 1, .ref 2, .int (Int32.ofInt (q' 0)), .int (Int32.ofInt (q' 1)), .int (Int32.ofInt (q' 2)), .int z, .int (Int32.ofInt (q' 4)), .int (Int32.ofInt (q' 5)), .int (Int32.ofInt (q' 6))]) : va_E) :: im_w 5 T ((([.inr (0, 400, .inl A)] : im_W) ++ XC 2 u' 436 c' 60 k') : im_W))) e.symm
  have hE' : ab_Ev ro ab_codes d 43 (im_k 5 [mr 0, .inl N, .inl (e_bi od)]) (im_w 5 T (RW 0 q A u c k)) (v.map (im_v 5), im_w 5 T (RW 0 q' A u' c' k'), 0, 0) := hE
  rw [ew] at hE'
  exact ⟨v, RW 0 (pl_U q' 3 (Int32.ofInt (q' 3)).toInt) A u' c' k', hE', rfl, _, u', c', k', rfl, im_irT _, hR⟩
/-- the reader's own text -/
def cw_tx (u : Int × Int × Int) (c k : Int → Int) : im_T := (u, (436, c), (60, k))
theorem cw_tx_ok {u : Int × Int × Int} {c k : Int → Int} (h : TS u c) (hk : ∀ x, -1 ≤ k x ∧ k x ≤ 1000) : TXOK (cw_tx u c k) := by
  obtain ⟨h1, h2, h3, h4⟩ := h
  refine ⟨by show (436 : Nat) ≤ 500; decide, by show (60 : Nat) ≤ 100; decide, fun i => ?_, fun i => hk i, ⟨h2.1, ?_⟩, ⟨h1.1, ?_⟩, h3⟩
  · have := h4 i
    show -2147483648 ≤ c i ∧ c i < 2147483648
    omega
  · show 5 * u.2.1 ≤ ((60 : Nat) : Int)
    omega
  · show u.1 ≤ 500
    omega
theorem cw_tx_kd {od : Bool} {u : Int × Int × Int} {c k : Int → Int} {Cs : List dC} (hn : u.2.1 = (Cs.length : Int)) (hu : u.2.1 ≤ 12) (hL : TXL od c u.1 u.2.2 k Cs) (hCs : ∀ cl ∈ Cs, 0 ≤ cl.1 ∧ cl.1 ≤ 3) : ∀ i, 0 ≤ i → i < (cw_tx u c k).1.2.1 → 0 ≤ tx_part (cw_tx u c k).2.2.1 (cw_tx u c k).2.2.2 i 0 ∧ tx_part (cw_tx u c k).2.2.1 (cw_tx u c k).2.2.2 i 0 ≤ 3 := by
  intro i h0 h1
  have h1' : i < u.2.1 := h1
  obtain ⟨m, rfl⟩ : ∃ m : Nat, i = (m : Int) := ⟨i.toNat, by omega⟩
  have hm : m < Cs.length := by omega
  have t := (hL m Cs[m] (List.getElem?_eq_getElem hm)).1.1
  have b := hCs Cs[m] (List.getElem_mem hm)
  have e : tx_part (cw_tx u c k).2.2.1 (cw_tx u c k).2.2.2 (m : Int) 0 = k (5 * (m : Int)) := by
    show tx_part 60 k (m : Int) 0 = _
    unfold tx_part
    rw [if_pos (by omega), show (m : Int) * 5 + 0 = 5 * (m : Int) by omega]
  rw [e, t]
  exact b
def sp_ (z : Option Int) : Int := match z with
  | none => -1
  | some x => x
section Ck
variable {ro : ab_R} {T : List im_T} {d : Nat} {xv : Nat → Int} {v : Nat → Int} {R : Nat → Int → Int} {g : Int → Option Nat} {ik : Int → Int} {y : cw_L} {f k : Int} {rw_ : Int → Int} {cv : Nat → Int} {cb : Int} {cs cwd : Int → Int} {rv rcv : Nat → Int} {rb rcb : Int} {rs_ rcs rcwd rrw : Int → Int} {wq : Nat → Int} {wA : Int → Int} {wu : Int × Int × Int} {wc wk : Int → Int} {fr : Int → Int} {I0 I1 : cw_L} {pv pcv : Nat → Int} {pb : Int} {ps pwd : Int → Int} {sv : Nat → Int} {sR : Nat → Int → Int} {sg : Int → Option Nat} {PR : Nat → Int → Int}
set_option maxHeartbeats 16000000 in
theorem cw_ordF (hd : 82 ≤ d) (hT : T.length < 1000) (hA : tk_ok wA) (hb0 : 0 ≤ xv 0 ∧ xv 0 ≤ 400) (hkb : ∀ x, -1 ≤ wk x ∧ wk x ≤ 1000) (hcb2 : ∀ x, 0 ≤ wc x ∧ wc x ≤ 100000) (h3 : im_ir (wq 3)) {n : Nat} {fq : Int} (hall : d_all true (tk_C wA (xv 0)) (tk_X wA (xv 0)) n (tk_nt wA (xv 0)) = some (.inl fq)) : im_ct ro T d 89 [mr 0] (CW (xv, (v, R, g), ik, y, (f, k, rw_), (cv, cb, cs, cwd), (rv, rb, rs_, (rcv, rcb, rcs, rcwd), rrw), (pv, (pcv, pb, ps, pwd), (sv, sR, sg), PR), (wq, wA, wu, wc, wk), fr, I0, I1)) (fun r w => r = some (.inl (-6)) ∧ ∃ q1 u1 c1 k1, im_ir (q1 3) ∧ (∀ x, -1 ≤ k1 x ∧ k1 x ≤ 1000) ∧ (∀ x, 0 ≤ c1 x ∧ c1 x ≤ 100000) ∧ w = CW ((pl_U (pl_U (pl_U (pl_U xv 0 0) 14 (-1)) 13 (tk_Q wA (xv 0) fq)) 12 (if (-6) < 0 then (-6) else 0)), (v, R, g), ik, y, (f, k, rw_), (cv, cb, cs, cwd), (rv, rb, rs_, (rcv, rcb, rcs, rcwd), rrw), (pv, (pcv, pb, ps, pwd), (sv, sR, sg), PR), (q1, wA, u1, c1, k1), (cw_fr (-6) fr), I0, I1)) := by
  obtain ⟨d, rfl⟩ : ∃ e, d = e + 1 := ⟨d - 1, by omega⟩
  have htq := tk_Q_b (A := wA) (i := fq) hb0.1
  refine im_ct_of (own := 8) (ret := (some .int)) (code := ab_k_X8_orders) (nL := 2) (L0 := [some (mr 0), none]) (n := 95) rfl rfl rfl rfl rfl rfl rfl rfl rfl ?_
  refine im_g 14 (y := (22, _, _, _)) rfl trivial ?_
  refine im_call [65,66,67,68,69] rfl rfl (c_readq (q := wq) (u := wu) (by omega) hT hA hb0 (od := true) hall hkb hcb2 h3) rfl rfl rfl (by decide) rfl (by decide) hT (fun v1 w1 hq => ?_)
  obtain ⟨q1, u1, c1, k1, rfl, h31, hTS, hk1, rfl⟩ := hq
  refine ⟨_, _, CW ((pl_U (pl_U xv 0 0) 14 (-1)), (v, R, g), ik, y, (f, k, rw_), (cv, cb, cs, cwd), (rv, rb, rs_, (rcv, rcb, rcs, rcwd), rrw), (pv, (pcv, pb, ps, pwd), (sv, sR, sg), PR), (q1, wA, u1, c1, k1), fr, I0, I1), rfl, rfl, rfl, ?_⟩
  refine im_g 4 (y := (33, _, _, _)) rfl trivial ?_
  refine im_bF rfl rfl ⟨(by omega), (by omega), trivial⟩ (by omega) ?_
  refine im_g 2 (y := (39, _, _, _)) rfl trivial ?_
  refine im_eqs (y := (39, _, _, CW ((pl_U (pl_U (pl_U xv 0 0) 14 (-1)) 13 (tk_Q wA (xv 0) fq)), (v, R, g), ik, y, (f, k, rw_), (cv, cb, cs, cwd), (rv, rb, rs_, (rcv, rcb, rcs, rcwd), rrw), (pv, (pcv, pb, ps, pwd), (sv, sR, sg), PR), (q1, wA, u1, c1, k1), fr, I0, I1))) rfl ?_
  refine im_cX rfl rfl (cw_settle (x := (-6)) (by omega) hT (by decide)) rfl hT (fun v1 w1 hq => ?_)
  obtain ⟨rfl, rfl⟩ := hq
  refine ⟨((pl_U (pl_U (pl_U (pl_U xv 0 0) 14 (-1)) 13 (tk_Q wA (xv 0) fq)) 12 (if (-6) < 0 then (-6) else 0)), (v, R, g), ik, y, (f, k, rw_), (cv, cb, cs, cwd), (rv, rb, rs_, (rcv, rcb, rcs, rcwd), rrw), (pv, (pcv, pb, ps, pwd), (sv, sR, sg), PR), (q1, wA, u1, c1, k1), (cw_fr (-6) fr), I0, I1), rfl, rfl, ?_⟩
  refine im_r rfl rfl trivial rfl ?_
  exact ⟨rfl, q1, u1, c1, k1, h31, hk1, hTS.2.2.2, rfl⟩
set_option maxHeartbeats 16000000 in
theorem cw_ordR (hd : 82 ≤ d) (hT : T.length < 1000) {lw : Option im_T} (h : LOK v R) (hday : R 7 0 ≤ 999) (hg : GV g T) (hl : LWR v g T lw) (hk : PKO pb ps pwd sv sR PR) (hpb : PRB PR) (hA : tk_ok wA) (hb0 : 0 ≤ xv 0 ∧ xv 0 ≤ 400) (hkb : ∀ x, -1 ≤ wk x ∧ wk x ≤ 1000) (hcb2 : ∀ x, 0 ≤ wc x ∧ wc x ≤ 100000) (h3 : im_ir (wq 3)) (hf : 0 ≤ f ∧ f ≤ 16) (hkk : 0 ≤ k ∧ k ≤ 16) (hrk : RKO rb rs_ rcb rcs rcwd rrw) {n : Nat} {Cs : List dC} (hall : d_all true (tk_C wA (xv 0)) (tk_X wA (xv 0)) n (tk_nt wA (xv 0)) = some (.inr Cs)) (hCs : ∀ cl ∈ Cs, 0 ≤ cl.1 ∧ cl.1 ≤ 3) : im_ct ro T d 89 [mr 0] (CW (xv, (v, R, g), ik, y, (f, k, rw_), (cv, cb, cs, cwd), (rv, rb, rs_, (rcv, rcb, rcs, rcwd), rrw), (pv, (pcv, pb, ps, pwd), (sv, sR, sg), PR), (wq, wA, wu, wc, wk), fr, I0, I1)) (fun r w => ∃ q1 u1 c1 k1 rv1 b1 s1 cv1 cb1 cs1 cwd1 rw1, (im_ir (q1 3) ∧ (∀ x, -1 ≤ k1 x ∧ k1 x ≤ 1000) ∧ (∀ x, 0 ≤ c1 x ∧ c1 x ≤ 100000)) ∧ (u1.2.1 = (Cs.length : Int) ∧ TS u1 c1 ∧ TXL true c1 u1.1 u1.2.2 k1 Cs) ∧ RKO b1 s1 cb1 cs1 cwd1 rw1 ∧ RSI (pl_v sv v) 1000 (ru_c lw (cw_tx u1 c1 k1) u1.2.1.toNat 0 ((pl_v sv v, pl_R sR R, (-1, 0), (f, k), rw_) : ru_S)).2 ∧ RSI v 1000 (ru_c lw (cw_tx u1 c1 k1) u1.2.1.toNat 0 ((v, R, (-1, 0), (f, k), rw_) : ru_S)).2 ∧ (¬ sp_ (ru_c lw (cw_tx u1 c1 k1) u1.2.1.toNat 0 ((pl_v sv v, pl_R sR R, (-1, 0), (f, k), rw_) : ru_S)).1 = -1 → r = some (.inl (-3)) ∧ w = CW ((pl_U (pl_U (pl_U (pl_U (pl_U xv 0 0) 14 (-1)) 13 (-1)) 14 (sp_ (ru_c lw (cw_tx u1 c1 k1) u1.2.1.toNat 0 ((pl_v sv v, pl_R sR R, (-1, 0), (f, k), rw_) : ru_S)).1)) 12 (if (-3) < 0 then (-3) else 0)), (v, R, g), ik, y, (f, k, rw_), (cv, cb, cs, cwd), (rv1, b1, s1, (cv1, cb1, cs1, cwd1), rw1), (pv, (pcv, pb, ps, pwd), ((ru_c lw (cw_tx u1 c1 k1) u1.2.1.toNat 0 ((pl_v sv v, pl_R sR R, (-1, 0), (f, k), rw_) : ru_S)).2.1, (ru_c lw (cw_tx u1 c1 k1) u1.2.1.toNat 0 ((pl_v sv v, pl_R sR R, (-1, 0), (f, k), rw_) : ru_S)).2.2.1, pl_g sg g 6), PR), (q1, wA, u1, c1, k1), (cw_fr (-3) fr), I0, I1)) ∧ (sp_ (ru_c lw (cw_tx u1 c1 k1) u1.2.1.toNat 0 ((pl_v sv v, pl_R sR R, (-1, 0), (f, k), rw_) : ru_S)).1 = -1 → r = some (.inl (ru_c lw (cw_tx u1 c1 k1) u1.2.1.toNat 0 ((v, R, (-1, 0), (f, k), rw_) : ru_S)).2.2.2.1.2) ∧ w = CW ((pl_U (pl_U (pl_U (pl_U (pl_U xv 0 0) 14 (-1)) 13 (-1)) 14 (sp_ (ru_c lw (cw_tx u1 c1 k1) u1.2.1.toNat 0 ((pl_v sv v, pl_R sR R, (-1, 0), (f, k), rw_) : ru_S)).1)) 12 (if (ru_c lw (cw_tx u1 c1 k1) u1.2.1.toNat 0 ((v, R, (-1, 0), (f, k), rw_) : ru_S)).2.2.2.1.2 < 0 then (ru_c lw (cw_tx u1 c1 k1) u1.2.1.toNat 0 ((v, R, (-1, 0), (f, k), rw_) : ru_S)).2.2.2.1.2 else 0)), ((ru_c lw (cw_tx u1 c1 k1) u1.2.1.toNat 0 ((v, R, (-1, 0), (f, k), rw_) : ru_S)).2.1, (ru_c lw (cw_tx u1 c1 k1) u1.2.1.toNat 0 ((v, R, (-1, 0), (f, k), rw_) : ru_S)).2.2.1, g), ik, y, ((ru_c lw (cw_tx u1 c1 k1) u1.2.1.toNat 0 ((v, R, (-1, 0), (f, k), rw_) : ru_S)).2.2.2.2.1.1, (ru_c lw (cw_tx u1 c1 k1) u1.2.1.toNat 0 ((v, R, (-1, 0), (f, k), rw_) : ru_S)).2.2.2.2.1.2, (ru_c lw (cw_tx u1 c1 k1) u1.2.1.toNat 0 ((v, R, (-1, 0), (f, k), rw_) : ru_S)).2.2.2.2.2), (cv, cb, cs, cwd), (rv1, b1, s1, (cv1, cb1, cs1, cwd1), rw1), (pv, (pcv, pb, ps, pwd), ((ru_c lw (cw_tx u1 c1 k1) u1.2.1.toNat 0 ((pl_v sv v, pl_R sR R, (-1, 0), (f, k), rw_) : ru_S)).2.1, (ru_c lw (cw_tx u1 c1 k1) u1.2.1.toNat 0 ((pl_v sv v, pl_R sR R, (-1, 0), (f, k), rw_) : ru_S)).2.2.1, pl_g sg g 6), PR), (q1, wA, u1, c1, k1), (cw_fr (ru_c lw (cw_tx u1 c1 k1) u1.2.1.toNat 0 ((v, R, (-1, 0), (f, k), rw_) : ru_S)).2.2.2.1.2 fr), I0, I1))) := by
  obtain ⟨d, rfl⟩ : ∃ e, d = e + 1 := ⟨d - 1, by omega⟩
  refine im_ct_of (own := 8) (ret := (some .int)) (code := ab_k_X8_orders) (nL := 2) (L0 := [some (mr 0), none]) (n := 95) rfl rfl rfl rfl rfl rfl rfl rfl rfl ?_
  refine im_g 14 (y := (22, _, _, _)) rfl trivial ?_
  refine im_call [65,66,67,68,69] rfl rfl (c_readq (q := wq) (u := wu) (by omega) hT hA hb0 (od := true) hall hkb hcb2 h3) rfl rfl rfl (by decide) rfl (by decide) hT (fun v1 w1 hq => ?_)
  obtain ⟨q1, u1, c1, k1, rfl, h31, hTS, hk1, rfl, hn1, hL1⟩ := hq
  refine ⟨_, _, CW ((pl_U (pl_U xv 0 0) 14 (-1)), (v, R, g), ik, y, (f, k, rw_), (cv, cb, cs, cwd), (rv, rb, rs_, (rcv, rcb, rcs, rcwd), rrw), (pv, (pcv, pb, ps, pwd), (sv, sR, sg), PR), (q1, wA, u1, c1, k1), fr, I0, I1), rfl, rfl, rfl, ?_⟩
  have hxo := cw_tx_ok hTS hk1
  have hkd := cw_tx_kd hn1 hTS.2.1.2 hL1 hCs
  have hz1 : RSI (pl_v sv v) 0 ((pl_v sv v, pl_R sR R, (-1, 0), (f, k), rw_) : ru_S) := ⟨LOK_take hk.2.2.2.1 h, by show pl_R sR R 7 0 ≤ 999; rw [(pl_R_q sR R 0 (by decide) (by decide)).2.2.2.2.1]; exact hday, rfl, ⟨Int.le_refl _, by show (-1 : Int) ≤ 98; decide⟩, ⟨Int.le_refl _, Int.le_refl _⟩, hf, hkk⟩
  have hz2 : RSI v 0 ((v, R, (-1, 0), (f, k), rw_) : ru_S) := ⟨h, hday, rfl, ⟨Int.le_refl _, by show (-1 : Int) ≤ 98; decide⟩, ⟨Int.le_refl _, Int.le_refl _⟩, hf, hkk⟩
  have hsp : -1 ≤ sp_ (ru_c lw (cw_tx u1 c1 k1) u1.2.1.toNat 0 ((pl_v sv v, pl_R sR R, (-1, 0), (f, k), rw_) : ru_S)).1 ∧ sp_ (ru_c lw (cw_tx u1 c1 k1) u1.2.1.toNat 0 ((pl_v sv v, pl_R sR R, (-1, 0), (f, k), rw_) : ru_S)).1 ≤ 12 := by
    cases hrc : (ru_c lw (cw_tx u1 c1 k1) u1.2.1.toNat 0 ((pl_v sv v, pl_R sR R, (-1, 0), (f, k), rw_) : ru_S)).1 with
    | none => exact ⟨Int.le_refl _, by decide⟩
    | some x =>
      have t := ru_c_b _ _ _ x hrc
      have h12 := hTS.2.1
      show -1 ≤ x ∧ x ≤ 12
      omega
  refine im_g 4 (y := (33, _, _, _)) rfl trivial ?_
  refine im_bT rfl rfl ⟨(by decide), (by decide), trivial⟩ (by decide) ?_
  refine im_g 5 (y := (54, _, _, _)) rfl trivial ?_
  refine im_call [46,47,48,49,50,51,52,53,54,55,56,57,1,2,3,4,5,6,7,8,9,10,11,12] rfl rfl (c_takeFrom (v := sv) (v2 := v) (R := sR) (R2 := R) (g := sg) (g2 := g) (by omega) hT (fun t ht => hg _ t ht)) rfl rfl rfl (by decide) rfl (by decide) hT (fun v1 w1 hq => ?_)
  obtain ⟨rfl, rfl⟩ := hq
  refine ⟨_, _, CW ((pl_U (pl_U (pl_U xv 0 0) 14 (-1)) 13 (-1)), (v, R, g), ik, y, (f, k, rw_), (cv, cb, cs, cwd), (rv, rb, rs_, (rcv, rcb, rcs, rcwd), rrw), (pv, (pcv, pb, ps, pwd), (pl_v sv v, pl_R sR R, pl_g sg g 6), PR), (q1, wA, u1, c1, k1), fr, I0, I1), rfl, rfl, rfl, ?_⟩
  refine im_g 10 (y := (77, _, _, _)) rfl trivial ?_
  refine im_call [33,34,35,36,37,38,39,40,67,68,69,46,47,48,49,50,51,52,53,54,55,56,57] rfl rfl (c_runN (v0 := pl_v sv v) (g := pl_g sg g 6) (lw := lw) (by omega) hT (LWR_take h hl) (q := (cw_tx u1 c1 k1)) hxo hkd (z0 := ((pl_v sv v, pl_R sR R, (-1, 0), (f, k), rw_) : ru_S)) hz1 rfl (rv := rv) (cv := rcv) hrk) rfl rfl rfl (by decide) rfl (by decide) hT (fun v1 w1 hq => ?_)
  obtain ⟨rfl, rv1, b1, s1, cv1, cb1, cs1, cwd1, rw1, hrk1, hdn1, hrs1, rfl⟩ := hq
  refine ⟨_, _, CW ((pl_U (pl_U (pl_U xv 0 0) 14 (-1)) 13 (-1)), (v, R, g), ik, y, (f, k, rw_), (cv, cb, cs, cwd), (rv1, b1, s1, (cv1, cb1, cs1, cwd1), rw1), (pv, (pcv, pb, ps, pwd), ((ru_c lw (cw_tx u1 c1 k1) u1.2.1.toNat 0 ((pl_v sv v, pl_R sR R, (-1, 0), (f, k), rw_) : ru_S)).2.1, (ru_c lw (cw_tx u1 c1 k1) u1.2.1.toNat 0 ((pl_v sv v, pl_R sR R, (-1, 0), (f, k), rw_) : ru_S)).2.2.1, pl_g sg g 6), PR), (q1, wA, u1, c1, k1), fr, I0, I1), rfl, rfl, rfl, ?_⟩
  refine im_eqs (y := (80, _, [.inl (sp_ (ru_c lw (cw_tx u1 c1 k1) u1.2.1.toNat 0 ((pl_v sv v, pl_R sR R, (-1, 0), (f, k), rw_) : ru_S)).1), mr 0], CW ((pl_U (pl_U (pl_U xv 0 0) 14 (-1)) 13 (-1)), (v, R, g), ik, y, (f, k, rw_), (cv, cb, cs, cwd), (rv1, b1, s1, (cv1, cb1, cs1, cwd1), rw1), (pv, (pcv, pb, ps, pwd), ((ru_c lw (cw_tx u1 c1 k1) u1.2.1.toNat 0 ((pl_v sv v, pl_R sR R, (-1, 0), (f, k), rw_) : ru_S)).2.1, (ru_c lw (cw_tx u1 c1 k1) u1.2.1.toNat 0 ((pl_v sv v, pl_R sR R, (-1, 0), (f, k), rw_) : ru_S)).2.2.1, pl_g sg g 6), PR), (q1, wA, u1, c1, k1), fr, I0, I1))) rfl ?_
  refine im_g 4 (y := (88, _, _, _)) rfl trivial ?_
  refine im_b rfl rfl ⟨(by first | decide | (show im_ir (sp_ _); constructor <;> omega)), (by first | decide | (show im_ir (sp_ _); constructor <;> omega)), trivial⟩ (fun j1 => ?_) (fun j1 => ?_)
  · refine im_g 9 (y := (117, _, _, _)) rfl trivial ?_
    refine im_call [33,34,35,36,37,38,39,40,67,68,69,1,2,3,4,5,6,7,8,9,10,11,12,27,28] rfl rfl (c_runP (v0 := v) (g := g) (lw := lw) (by omega) hT hl (q := (cw_tx u1 c1 k1)) hxo hkd (z0 := ((v, R, (-1, 0), (f, k), rw_) : ru_S)) hz2 rfl (rv := rv1) (cv := cv1) hrk1) rfl rfl rfl (by decide) rfl (by decide) hT (fun v1 w1 hq => ?_)
    obtain ⟨rfl, rv2, b2, s2, cv2, cb2, cs2, cwd2, rw2, hrk2, hdn2, hrs2, rfl⟩ := hq
    refine ⟨_, _, CW ((pl_U (pl_U (pl_U (pl_U xv 0 0) 14 (-1)) 13 (-1)) 14 (sp_ (ru_c lw (cw_tx u1 c1 k1) u1.2.1.toNat 0 ((pl_v sv v, pl_R sR R, (-1, 0), (f, k), rw_) : ru_S)).1)), ((ru_c lw (cw_tx u1 c1 k1) u1.2.1.toNat 0 ((v, R, (-1, 0), (f, k), rw_) : ru_S)).2.1, (ru_c lw (cw_tx u1 c1 k1) u1.2.1.toNat 0 ((v, R, (-1, 0), (f, k), rw_) : ru_S)).2.2.1, g), ik, y, ((ru_c lw (cw_tx u1 c1 k1) u1.2.1.toNat 0 ((v, R, (-1, 0), (f, k), rw_) : ru_S)).2.2.2.2.1.1, (ru_c lw (cw_tx u1 c1 k1) u1.2.1.toNat 0 ((v, R, (-1, 0), (f, k), rw_) : ru_S)).2.2.2.2.1.2, (ru_c lw (cw_tx u1 c1 k1) u1.2.1.toNat 0 ((v, R, (-1, 0), (f, k), rw_) : ru_S)).2.2.2.2.2), (cv, cb, cs, cwd), (rv2, b2, s2, (cv2, cb2, cs2, cwd2), rw2), (pv, (pcv, pb, ps, pwd), ((ru_c lw (cw_tx u1 c1 k1) u1.2.1.toNat 0 ((pl_v sv v, pl_R sR R, (-1, 0), (f, k), rw_) : ru_S)).2.1, (ru_c lw (cw_tx u1 c1 k1) u1.2.1.toNat 0 ((pl_v sv v, pl_R sR R, (-1, 0), (f, k), rw_) : ru_S)).2.2.1, pl_g sg g 6), PR), (q1, wA, u1, c1, k1), fr, I0, I1), rfl, rfl, rfl, ?_⟩
    refine im_g 1 (y := (121, _, _, _)) rfl trivial ?_
    have hbd : -6 ≤ rv2 3 ∧ rv2 3 ≤ 2000000 := by
      have h5 := hrs2.2.2.2.2.1
      rw [hdn2]
      constructor <;> omega
    have hdnw := congrArg (fun (z : Int) => CW ((pl_U (pl_U (pl_U (pl_U (pl_U xv 0 0) 14 (-1)) 13 (-1)) 14 (sp_ (ru_c lw (cw_tx u1 c1 k1) u1.2.1.toNat 0 ((pl_v sv v, pl_R sR R, (-1, 0), (f, k), rw_) : ru_S)).1)) 12 (if z < 0 then z else 0)), ((ru_c lw (cw_tx u1 c1 k1) u1.2.1.toNat 0 ((v, R, (-1, 0), (f, k), rw_) : ru_S)).2.1, (ru_c lw (cw_tx u1 c1 k1) u1.2.1.toNat 0 ((v, R, (-1, 0), (f, k), rw_) : ru_S)).2.2.1, g), ik, y, ((ru_c lw (cw_tx u1 c1 k1) u1.2.1.toNat 0 ((v, R, (-1, 0), (f, k), rw_) : ru_S)).2.2.2.2.1.1, (ru_c lw (cw_tx u1 c1 k1) u1.2.1.toNat 0 ((v, R, (-1, 0), (f, k), rw_) : ru_S)).2.2.2.2.1.2, (ru_c lw (cw_tx u1 c1 k1) u1.2.1.toNat 0 ((v, R, (-1, 0), (f, k), rw_) : ru_S)).2.2.2.2.2), (cv, cb, cs, cwd), (rv2, b2, s2, (cv2, cb2, cs2, cwd2), rw2), (pv, (pcv, pb, ps, pwd), ((ru_c lw (cw_tx u1 c1 k1) u1.2.1.toNat 0 ((pl_v sv v, pl_R sR R, (-1, 0), (f, k), rw_) : ru_S)).2.1, (ru_c lw (cw_tx u1 c1 k1) u1.2.1.toNat 0 ((pl_v sv v, pl_R sR R, (-1, 0), (f, k), rw_) : ru_S)).2.2.1, pl_g sg g 6), PR), (q1, wA, u1, c1, k1), (cw_fr z fr), I0, I1)) hdn2
    refine im_g 4 (y := (129, _, _, _)) rfl trivial ?_
    refine im_eqs (y := (129, _, _, CW ((pl_U (pl_U (pl_U (pl_U xv 0 0) 14 (-1)) 13 (-1)) 14 (sp_ (ru_c lw (cw_tx u1 c1 k1) u1.2.1.toNat 0 ((pl_v sv v, pl_R sR R, (-1, 0), (f, k), rw_) : ru_S)).1)), ((ru_c lw (cw_tx u1 c1 k1) u1.2.1.toNat 0 ((v, R, (-1, 0), (f, k), rw_) : ru_S)).2.1, (ru_c lw (cw_tx u1 c1 k1) u1.2.1.toNat 0 ((v, R, (-1, 0), (f, k), rw_) : ru_S)).2.2.1, g), ik, y, ((ru_c lw (cw_tx u1 c1 k1) u1.2.1.toNat 0 ((v, R, (-1, 0), (f, k), rw_) : ru_S)).2.2.2.2.1.1, (ru_c lw (cw_tx u1 c1 k1) u1.2.1.toNat 0 ((v, R, (-1, 0), (f, k), rw_) : ru_S)).2.2.2.2.1.2, (ru_c lw (cw_tx u1 c1 k1) u1.2.1.toNat 0 ((v, R, (-1, 0), (f, k), rw_) : ru_S)).2.2.2.2.2), (cv, cb, cs, cwd), (rv2, b2, s2, (cv2, cb2, cs2, cwd2), rw2), (pv, (pcv, pb, ps, pwd), ((ru_c lw (cw_tx u1 c1 k1) u1.2.1.toNat 0 ((pl_v sv v, pl_R sR R, (-1, 0), (f, k), rw_) : ru_S)).2.1, (ru_c lw (cw_tx u1 c1 k1) u1.2.1.toNat 0 ((pl_v sv v, pl_R sR R, (-1, 0), (f, k), rw_) : ru_S)).2.2.1, pl_g sg g 6), PR), (q1, wA, u1, c1, k1), fr, I0, I1))) rfl ?_
    refine im_cX rfl rfl (cw_settle (x := (rv2 3)) (by omega) hT hbd) rfl hT (fun v1 w1 hq => ?_)
    obtain ⟨rfl, rfl⟩ := hq
    refine ⟨((pl_U (pl_U (pl_U (pl_U (pl_U xv 0 0) 14 (-1)) 13 (-1)) 14 (sp_ (ru_c lw (cw_tx u1 c1 k1) u1.2.1.toNat 0 ((pl_v sv v, pl_R sR R, (-1, 0), (f, k), rw_) : ru_S)).1)) 12 (if (rv2 3) < 0 then (rv2 3) else 0)), ((ru_c lw (cw_tx u1 c1 k1) u1.2.1.toNat 0 ((v, R, (-1, 0), (f, k), rw_) : ru_S)).2.1, (ru_c lw (cw_tx u1 c1 k1) u1.2.1.toNat 0 ((v, R, (-1, 0), (f, k), rw_) : ru_S)).2.2.1, g), ik, y, ((ru_c lw (cw_tx u1 c1 k1) u1.2.1.toNat 0 ((v, R, (-1, 0), (f, k), rw_) : ru_S)).2.2.2.2.1.1, (ru_c lw (cw_tx u1 c1 k1) u1.2.1.toNat 0 ((v, R, (-1, 0), (f, k), rw_) : ru_S)).2.2.2.2.1.2, (ru_c lw (cw_tx u1 c1 k1) u1.2.1.toNat 0 ((v, R, (-1, 0), (f, k), rw_) : ru_S)).2.2.2.2.2), (cv, cb, cs, cwd), (rv2, b2, s2, (cv2, cb2, cs2, cwd2), rw2), (pv, (pcv, pb, ps, pwd), ((ru_c lw (cw_tx u1 c1 k1) u1.2.1.toNat 0 ((pl_v sv v, pl_R sR R, (-1, 0), (f, k), rw_) : ru_S)).2.1, (ru_c lw (cw_tx u1 c1 k1) u1.2.1.toNat 0 ((pl_v sv v, pl_R sR R, (-1, 0), (f, k), rw_) : ru_S)).2.2.1, pl_g sg g 6), PR), (q1, wA, u1, c1, k1), (cw_fr (rv2 3) fr), I0, I1), rfl, rfl, ?_⟩
    refine im_r rfl rfl trivial rfl ?_
    exact ⟨q1, u1, c1, k1, rv2, b2, s2, cv2, cb2, cs2, cwd2, rw2, ⟨h31, hk1, hTS.2.2.2⟩, ⟨hn1, hTS, hL1⟩, hrk2, hrs1, hrs2, fun z => (by omega), fun _ => ⟨congrArg (fun z => some (Sum.inl z)) hdn2, hdnw⟩⟩
  · have hrs2 : RSI v 1000 (ru_c lw (cw_tx u1 c1 k1) u1.2.1.toNat 0 ((v, R, (-1, 0), (f, k), rw_) : ru_S)).2 := by
      obtain ⟨v9, w9, -, -, -, -, -, -, -, -, -, -, -, -, -, hrs9, -⟩ := c_runP (ro := ro) (d := 7) (v0 := v) (g := g) (lw := lw) (by omega) hT hl (q := (cw_tx u1 c1 k1)) hxo hkd (z0 := ((v, R, (-1, 0), (f, k), rw_) : ru_S)) hz2 rfl (rv := rv1) (cv := cv1) hrk1
      exact hrs9
    refine im_g 2 (y := (94, _, _, _)) rfl trivial ?_
    refine im_eqs (y := (94, _, _, CW ((pl_U (pl_U (pl_U (pl_U xv 0 0) 14 (-1)) 13 (-1)) 14 (sp_ (ru_c lw (cw_tx u1 c1 k1) u1.2.1.toNat 0 ((pl_v sv v, pl_R sR R, (-1, 0), (f, k), rw_) : ru_S)).1)), (v, R, g), ik, y, (f, k, rw_), (cv, cb, cs, cwd), (rv1, b1, s1, (cv1, cb1, cs1, cwd1), rw1), (pv, (pcv, pb, ps, pwd), ((ru_c lw (cw_tx u1 c1 k1) u1.2.1.toNat 0 ((pl_v sv v, pl_R sR R, (-1, 0), (f, k), rw_) : ru_S)).2.1, (ru_c lw (cw_tx u1 c1 k1) u1.2.1.toNat 0 ((pl_v sv v, pl_R sR R, (-1, 0), (f, k), rw_) : ru_S)).2.2.1, pl_g sg g 6), PR), (q1, wA, u1, c1, k1), fr, I0, I1))) rfl ?_
    refine im_cX rfl rfl (cw_settle (x := (-3)) (by omega) hT (by decide)) rfl hT (fun v1 w1 hq => ?_)
    obtain ⟨rfl, rfl⟩ := hq
    refine ⟨((pl_U (pl_U (pl_U (pl_U (pl_U xv 0 0) 14 (-1)) 13 (-1)) 14 (sp_ (ru_c lw (cw_tx u1 c1 k1) u1.2.1.toNat 0 ((pl_v sv v, pl_R sR R, (-1, 0), (f, k), rw_) : ru_S)).1)) 12 (if (-3) < 0 then (-3) else 0)), (v, R, g), ik, y, (f, k, rw_), (cv, cb, cs, cwd), (rv1, b1, s1, (cv1, cb1, cs1, cwd1), rw1), (pv, (pcv, pb, ps, pwd), ((ru_c lw (cw_tx u1 c1 k1) u1.2.1.toNat 0 ((pl_v sv v, pl_R sR R, (-1, 0), (f, k), rw_) : ru_S)).2.1, (ru_c lw (cw_tx u1 c1 k1) u1.2.1.toNat 0 ((pl_v sv v, pl_R sR R, (-1, 0), (f, k), rw_) : ru_S)).2.2.1, pl_g sg g 6), PR), (q1, wA, u1, c1, k1), (cw_fr (-3) fr), I0, I1), rfl, rfl, ?_⟩
    refine im_r rfl rfl trivial rfl ?_
    refine ⟨q1, u1, c1, k1, rv1, b1, s1, cv1, cb1, cs1, cwd1, rw1, ⟨h31, hk1, hTS.2.2.2⟩, ⟨hn1, hTS, hL1⟩, hrk1, hrs1, ?_, fun _ => ⟨rfl, rfl⟩, fun z => (by omega)⟩
    exact hrs2
end Ck
