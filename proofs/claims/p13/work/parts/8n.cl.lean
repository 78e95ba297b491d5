/-! the class's calls: law -/
section ImR1
variable {ro : ab_R} {C : Nat → List Value → ab_W → ab_O → Prop} {own : Nat} {ret : Option FieldType} {code : ab_C} {n : Nat} {T : List im_T} {Q : Option im_V → im_W → Prop}
/-- a text's handle is put into a row -/
theorem im_as1 {pc t2 o m t : Nat} {j : Int} {L : im_L} {r : List im_V} {w : im_W} {g : Int → Option Nat} (hc2 : code pc = some (.aastore, t2)) (hw : w[o]? = some (.inr (5, m, .inr (.inl g)))) (hb2 : 0 ≤ j ∧ j < m ∧ j < 2147483648) (hT : T.length < 1000) (ht : t < T.length) (hn : w.length = n) (k : im_wp ro C own ret code n T Q (pc + 1, L, r, w.set o (.inr (5, m, .inr (.inl (im_up g j (some t))))))) : im_wp ro C own ret code n T Q (pc, L, mt t :: .inl j :: mr o :: r, w) := by
  have e1 := im_w_get (n := n) (T := T) hw
  have e3 := im_w_set (n := n) (T := T) (e' := .inr (5, m, .inr (.inl (im_up g j (some t))))) hw
  obtain ⟨b1, b2⟩ := im_ix hb2
  have hup : va_up (fun k : Nat => (g (k : Int)).map (fun q => n + 3 * min q 100000)) j.toNat (some (n + 3 * min t 100000)) = fun k : Nat => (im_up g j (some t) (k : Int)).map (fun q => n + 3 * min q 100000) := by
    funext k
    unfold va_up im_up
    by_cases e : k = j.toNat
    · rw [if_pos e, if_pos (by omega)]
      rfl
    · rw [if_neg e, if_neg (by omega)]
  obtain ⟨o', kk, hX, hQ⟩ := k
  have st2 : ab_nx ro own false .aastore t2 pc (im_l n L) (.ref (n + 3 * min t 100000) :: .int (Int32.ofInt j) :: .ref o :: im_k n r) (im_w n T w) 0 0 = some ([vp_in (Int32.ofInt j) m], pc + 1, im_l n L, im_k n r, im_w n T (w.set o (.inr (5, m, .inr (.inl (im_up g j (some t)))))), 0, 0) := by
    rw [← e3]
    obtain ⟨fs, e4⟩ := im_tc_get (m := n) ht
    have e5 : (im_w n T w)[n + 3 * min t 100000]? = some (.inr (7, fs)) := by
      rw [show n + 3 * min t 100000 = w.length + 3 * t by omega, im_w_new]
      exact e4
    simp only [ab_nx, e1, e5, im_e]
    rw [b2]
    rw [hup]
    rfl
  exact ⟨o', kk + 1, ⟨_, _, hc2, Or.inl ⟨_, _, st2, ⟨b1, trivial⟩, hX⟩⟩, hQ⟩
end ImR1
/-- the text that is made -/
def cw_nt (u : Int × Int × Int) (c k : Int → Int) : im_T := (u, (u.1.toNat, fun i => if i < u.1 then c i else 0), ((u.2.1 * 5).toNat, fun i => if i < u.2.1 * 5 then k i else 0))
theorem tr_su {s : Int32} (h0 : 0 ≤ s.toInt) (h1 : s.toInt ≤ 12) : (tr_s s).toNatClampNeg = (s.toInt * 5).toNat := by
  obtain ⟨a1, a2, a3⟩ := tr_ub h0 (by omega)
  have e : (tr_s s).toInt = s.toInt * 5 := by
    unfold tr_s
    rw [Int32.toInt_mul, a3, show (5 : Int32).toInt = 5 from rfl, ck_bmod (by omega) (by omega)]
  have e2 : (tr_s s).toNatClampNeg = (tr_s s).toInt.toNat := rfl
  rw [e2, e]
theorem tr_nt {u : Int × Int × Int} {c k : Int → Int} (h1 : 0 ≤ u.1 ∧ u.1 ≤ 436) (h2 : 0 ≤ u.2.1 ∧ u.2.1 ≤ 12) : ([.inr (7, [.ref 4, .ref 5, .int (Int32.ofInt u.1), .int (Int32.ofInt u.2.1), .int (Int32.ofInt u.2.2)]), .inl (0, (tr_u (Int32.ofInt u.1)).toNatClampNeg, .inl (va_cpy (fun i : Nat => Int32.ofInt (c (i : Int))) (fun _ => 0) 0 0 (Int32.ofNat (tr_u (Int32.ofInt u.1)).toNatClampNeg).toNatClampNeg)), .inl (0, (tr_s (Int32.ofInt u.2.1)).toNatClampNeg, .inl (va_cpy (fun i : Nat => Int32.ofInt (k (i : Int))) (fun _ => 0) 0 0 (Int32.ofNat (tr_s (Int32.ofInt u.2.1)).toNatClampNeg).toNatClampNeg))] : ab_W) = im_tc 3 [cw_nt u c k] := by
  have eu : (Int32.ofInt u.1).toInt = u.1 := im_i ⟨by omega, by omega⟩
  have es : (Int32.ofInt u.2.1).toInt = u.2.1 := im_i ⟨by omega, by omega⟩
  have bu := tr_ub (u := Int32.ofInt u.1) (by omega) (by omega)
  have bs := tr_sb (s := Int32.ofInt u.2.1) (by omega) (by omega)
  have n1 : (tr_u (Int32.ofInt u.1)).toNatClampNeg = u.1.toNat := by
    have e2 : (tr_u (Int32.ofInt u.1)).toNatClampNeg = (tr_u (Int32.ofInt u.1)).toInt.toNat := rfl
    rw [e2, bu.2.2, eu]
  have n2 : (tr_s (Int32.ofInt u.2.1)).toNatClampNeg = (u.2.1 * 5).toNat := by
    rw [tr_su (by omega) (by omega), es]
  rw [(tr_len bu.2.1).2, (tr_len (Nat.le_trans bs.2 (by decide))).2, n1, n2]
  have f1 : va_cpy (fun i : Nat => Int32.ofInt (c (i : Int))) (fun _ => 0) 0 0 u.1.toNat = fun i : Nat => Int32.ofInt (if (i : Int) < u.1 then c (i : Int) else 0) := by
    funext i
    unfold va_cpy
    by_cases e : (i : Int) < u.1
    · rw [if_pos (by omega), if_pos e]
      show Int32.ofInt (c ((0 + (i - 0) : Nat) : Int)) = _
      rw [show 0 + (i - 0) = i by omega]
    · rw [if_neg (by omega), if_neg e]
      rfl
  have f2 : va_cpy (fun i : Nat => Int32.ofInt (k (i : Int))) (fun _ => 0) 0 0 (u.2.1 * 5).toNat = fun i : Nat => Int32.ofInt (if (i : Int) < u.2.1 * 5 then k (i : Int) else 0) := by
    funext i
    unfold va_cpy
    by_cases e : (i : Int) < u.2.1 * 5
    · rw [if_pos (by omega), if_pos e]
      show Int32.ofInt (k ((0 + (i - 0) : Nat) : Int)) = _
      rw [show 0 + (i - 0) = i by omega]
    · rw [if_neg (by omega), if_neg e]
      rfl
  rw [f1, f2]
  rfl
/-- a text is trimmed within the class's world -/
theorem im_trim {ro : ab_R} {d : Nat} {ret : Option FieldType} {code : ab_C} {T : List im_T} {QO QO' : ab_O → Prop} {pc t ix : Nat} {L : im_L} {r : List im_V} {xv : Nat → Int} {l : cw_L} {ik : Int → Int} {y : cw_L} {pq : Int × Int × (Int → Int)} {C : cw_C} {U : cw_U} {P : cw_P} {q : Nat → Int} {A : Int → Int} {u : Int × Int × Int} {c k : Int → Int} {fr : Int → Int} {I0 I1 : cw_L} (hd : 2 ≤ d) (hc : code pc = some (.invokevirtual ix, t)) (hca : im_ca 8 (.invokevirtual ix) (mr 67 :: r) (CW (xv, l, ik, y, pq, C, U, P, (q, A, u, c, k), fr, I0, I1)) = some (78, [mr 67], r)) (hT : T.length < 1000) (h1 : 0 ≤ u.1 ∧ u.1 ≤ 436) (h2 : 0 ≤ u.2.1 ∧ u.2.1 ≤ 12)
    (kk : im_wg ro (ab_Ev ro ab_codes d) 8 ret code 95 (T ++ [cw_nt u c k]) QO' (pc + 3, L, mt T.length :: r, CW (xv, l, ik, y, pq, C, U, P, (q, A, u, c, k), fr, I0, I1))) (hQ : ∀ v w mc ms', QO' (v, w, mc, ms') → ∀ ms, ms ≤ 501 → QO (v, w, 3 + mc, ms + ms')) : im_wg ro (ab_Ev ro ab_codes d) 8 ret code 95 T QO (pc, L, mr 67 :: r, CW (xv, l, ik, y, pq, C, U, P, (q, A, u, c, k), fr, I0, I1)) := by
  obtain ⟨d, rfl⟩ : ∃ e, d = e + 2 := ⟨d - 2, by omega⟩
  have eu : (Int32.ofInt u.1).toInt = u.1 := im_i ⟨by omega, by omega⟩
  have es : (Int32.ofInt u.2.1).toInt = u.2.1 := im_i ⟨by omega, by omega⟩
  have bu := tr_ub (u := Int32.ofInt u.1) (by omega) (by omega)
  have bs := tr_sb (s := Int32.ofInt u.2.1) (by omega) (by omega)
  have ht := tr_trimv (ro := ro) (d := d) (Int32.ofInt u.1) (Int32.ofInt u.2.1) (Int32.ofInt u.2.2) (fun i : Nat => Int32.ofInt (c (i : Int))) (fun i : Nat => Int32.ofInt (k (i : Int))) ⟨bu.1, bu.2.1⟩ bs
  rw [tr_nt h1 h2] at ht
  have hl : (im_w 95 T (CW (xv, l, ik, y, pq, C, U, P, (q, A, u, c, k), fr, I0, I1))).length = 95 + 3 * T.length := by rw [im_w_len]; rfl
  have hm : [67, 68, 69].map (fun i => (im_w 95 T (CW (xv, l, ik, y, pq, C, U, P, (q, A, u, c, k), fr, I0, I1)))[i]?) = ([.inr (7, [.ref 1, .ref 2, .int (Int32.ofInt u.1), .int (Int32.ofInt u.2.1), .int (Int32.ofInt u.2.2)]), .inl (0, 436, .inl (fun i : Nat => Int32.ofInt (c (i : Int)))), .inl (0, 60, .inl (fun i : Nat => Int32.ofInt (k (i : Int))))] : ab_W).map (fun e => some (ab_re (ab_pi [67, 68, 69] (95 + 3 * T.length)) id e)) := rfl
  refine ax_call [67, 68, 69] hc (im_ca_ok hca) ht ?_ ?_ (by decide) (by show (3 : Nat) < 400000; decide) (fun v w1 mc ms hq => ?_)
  · rw [hl]; rfl
  · rw [hl]; exact hm
  · cases hq
    refine ⟨by decide, ?_⟩
    have hm2 := hm
    rw [← hl] at hm2
    rw [ab_put_new (p := ab_pi [67, 68, 69] (im_w 95 T (CW (xv, l, ik, y, pq, C, U, P, (q, A, u, c, k), fr, I0, I1))).length) (news := im_tc 3 [cw_nt u c k]) hm2, hl]
    have en : (im_tc 3 [cw_nt u c k]).map (ab_re (ab_pi [67, 68, 69] (95 + 3 * T.length)) id) = im_tc (95 + 3 * T.length) [cw_nt u c k] := im_tc_re (p := ab_pi [67, 68, 69] (95 + 3 * T.length)) (a := 3) (b := 95 + 3 * T.length) (T := [cw_nt u c k]) (x := 0) (fun y hy => by
      have hy3 : y < 3 := hy
      unfold ab_pi
      show (if 3 + y < 3 then _ else if 3 + y < 500000 then 95 + 3 * T.length + (3 + y - 3) else _) = 95 + 3 * T.length + y
      rw [if_neg (by omega), if_pos (by omega)]
      omega)
    have ew : im_w 95 T (CW (xv, l, ik, y, pq, C, U, P, (q, A, u, c, k), fr, I0, I1)) ++ im_tc (95 + 3 * T.length) [cw_nt u c k] = im_w 95 (T ++ [cw_nt u c k]) (CW (xv, l, ik, y, pq, C, U, P, (q, A, u, c, k), fr, I0, I1)) := by
      unfold im_w
      rw [im_tc_app, List.append_assoc]
    rw [en, ew]
    have ev : (Option.map (ab_rv (ab_pi [67, 68, 69] (95 + 3 * T.length))) (some (Value.ref 3))).toList ++ im_k 95 r = im_k 95 (mt T.length :: r) := by
      show Value.ref (ab_pi [67, 68, 69] (95 + 3 * T.length) 3) :: im_k 95 r = Value.ref (95 + 3 * min T.length 100000) :: im_k 95 r
      rw [show ab_pi [67, 68, 69] (95 + 3 * T.length) 3 = 95 + 3 * T.length from by
        unfold ab_pi
        show (if 3 < 3 then _ else if 3 < 500000 then 95 + 3 * T.length + (3 - 3) else _) = _
        rw [if_neg (by omega), if_pos (by omega)]
        omega, show min T.length 100000 = T.length by omega]
    rw [ev, Nat.zero_add, Nat.zero_add]
    have h5 := bu.2.1
    have h6 := bs.2
    exact ax_shift (Q0 := QO') (a := 3) kk (fun v2 w2 mc2 ms2 hq => hQ v2 w2 mc2 ms2 hq _ (by omega))
section Cl
variable {ro : ab_R} {T : List im_T} {d : Nat} {xv : Nat → Int} {v : Nat → Int} {R : Nat → Int → Int} {g : Int → Option Nat} {ik : Int → Int} {y : cw_L} {f k : Int} {rw_ : Int → Int} {cv : Nat → Int} {cb : Int} {cs cwd : Int → Int} {U : cw_U} {wq : Nat → Int} {wA : Int → Int} {wu : Int × Int × Int} {wc wk : Int → Int} {P : cw_P} {fr : Int → Int} {I0 I1 : cw_L}
set_option maxHeartbeats 8000000 in
theorem cw_law5 (hd : 2 ≤ d) (hT : T.length < 1000) (h4 : v 4 = 6) : im_ct ro T d 88 [mr 0] (CW (xv, (v, R, g), ik, y, (f, k, rw_), (cv, cb, cs, cwd), U, P, (wq, wA, wu, wc, wk), fr, I0, I1)) (fun r w => r = some (.inl (-5)) ∧ w = CW ((pl_U (pl_U xv 0 0) 12 (if (-5) < 0 then (-5) else 0)), (v, R, g), ik, y, (f, k, rw_), (cv, cb, cs, cwd), U, P, (wq, wA, wu, wc, wk), (cw_fr (-5) fr), I0, I1)) := by
  obtain ⟨d, rfl⟩ : ∃ e, d = e + 1 := ⟨d - 1, by omega⟩
  refine im_ct_of (own := 8) (ret := (some .int)) (code := ab_k_X8_law) (nL := 2) (L0 := [some (mr 0), none]) (n := 95) rfl rfl rfl rfl rfl rfl rfl rfl rfl ?_
  refine im_g 10 (y := (19, _, _, _)) rfl trivial ?_
  refine im_bF rfl rfl ⟨(by first | omega | (constructor <;> omega)), (by first | omega | (constructor <;> omega)), trivial⟩ (by omega) ?_
  refine im_g 2 (y := (25, _, _, _)) rfl trivial ?_
  refine im_eqs (y := (25, _, _, CW ((pl_U xv 0 0), (v, R, g), ik, y, (f, k, rw_), (cv, cb, cs, cwd), U, P, (wq, wA, wu, wc, wk), fr, I0, I1))) rfl ?_
  refine im_cX rfl rfl (cw_settle (x := (-5)) (by omega) hT (by decide)) rfl hT (fun v1 w1 hq => ?_)
  obtain ⟨rfl, rfl⟩ := hq
  refine ⟨((pl_U (pl_U xv 0 0) 12 (if (-5) < 0 then (-5) else 0)), (v, R, g), ik, y, (f, k, rw_), (cv, cb, cs, cwd), U, P, (wq, wA, wu, wc, wk), (cw_fr (-5) fr), I0, I1), rfl, rfl, ?_⟩
  refine im_r rfl rfl trivial rfl ?_
  exact ⟨rfl, rfl⟩
set_option maxHeartbeats 16000000 in
theorem cw_lawF (hd : 82 ≤ d) (hT : T.length < 1000) (hA : tk_ok wA) (hb0 : 0 ≤ xv 0 ∧ xv 0 ≤ 400) (hkb : ∀ x, -1 ≤ wk x ∧ wk x ≤ 1000) (hcb2 : ∀ x, 0 ≤ wc x ∧ wc x ≤ 100000) (h3 : im_ir (wq 3)) (h4 : 0 ≤ v 4 ∧ v 4 < 6) {n : Nat} {fq : Int} (hall : d_all false (tk_C wA (xv 0)) (tk_X wA (xv 0)) n (tk_nt wA (xv 0)) = some (.inl fq)) : im_ct ro T d 88 [mr 0] (CW (xv, (v, R, g), ik, y, (f, k, rw_), (cv, cb, cs, cwd), U, P, (wq, wA, wu, wc, wk), fr, I0, I1)) (fun r w => r = some (.inl (-6)) ∧ ∃ q1 u1 c1 k1, im_ir (q1 3) ∧ (∀ x, -1 ≤ k1 x ∧ k1 x ≤ 1000) ∧ (∀ x, 0 ≤ c1 x ∧ c1 x ≤ 100000) ∧ w = CW ((pl_U (pl_U (pl_U xv 0 0) 13 (tk_Q wA (xv 0) fq)) 12 (if (-6) < 0 then (-6) else 0)), (v, R, g), ik, y, (f, k, rw_), (cv, cb, cs, cwd), U, P, (q1, wA, u1, c1, k1), (cw_fr (-6) fr), I0, I1)) := by
  obtain ⟨d, rfl⟩ : ∃ e, d = e + 1 := ⟨d - 1, by omega⟩
  have htq := tk_Q_b (A := wA) (i := fq) hb0.1
  refine im_ct_of (own := 8) (ret := (some .int)) (code := ab_k_X8_law) (nL := 2) (L0 := [some (mr 0), none]) (n := 95) rfl rfl rfl rfl rfl rfl rfl rfl rfl ?_
  refine im_g 10 (y := (19, _, _, _)) rfl trivial ?_
  refine im_bT rfl rfl ⟨(by first | omega | (constructor <;> omega)), (by first | omega | (constructor <;> omega)), trivial⟩ (by omega) ?_
  refine im_g 5 (y := (36, _, _, _)) rfl trivial ?_
  refine im_call [65,66,67,68,69] rfl rfl (c_readq (q := wq) (u := wu) (by omega) hT hA hb0 (od := false) hall hkb hcb2 h3) rfl rfl rfl (by decide) rfl (by decide) hT (fun v1 w1 hq => ?_)
  obtain ⟨q1, u1, c1, k1, rfl, h31, hTS, hk1, rfl⟩ := hq
  refine ⟨_, _, CW ((pl_U xv 0 0), (v, R, g), ik, y, (f, k, rw_), (cv, cb, cs, cwd), U, P, (q1, wA, u1, c1, k1), fr, I0, I1), rfl, rfl, rfl, ?_⟩
  refine im_g 4 (y := (47, _, _, _)) rfl trivial ?_
  refine im_bF rfl rfl ⟨(by omega), (by omega), trivial⟩ (by omega) ?_
  refine im_g 2 (y := (53, _, _, _)) rfl trivial ?_
  refine im_eqs (y := (53, _, _, CW ((pl_U (pl_U xv 0 0) 13 (tk_Q wA (xv 0) fq)), (v, R, g), ik, y, (f, k, rw_), (cv, cb, cs, cwd), U, P, (q1, wA, u1, c1, k1), fr, I0, I1))) rfl ?_
  refine im_cX rfl rfl (cw_settle (x := (-6)) (by omega) hT (by decide)) rfl hT (fun v1 w1 hq => ?_)
  obtain ⟨rfl, rfl⟩ := hq
  refine ⟨((pl_U (pl_U (pl_U xv 0 0) 13 (tk_Q wA (xv 0) fq)) 12 (if (-6) < 0 then (-6) else 0)), (v, R, g), ik, y, (f, k, rw_), (cv, cb, cs, cwd), U, P, (q1, wA, u1, c1, k1), (cw_fr (-6) fr), I0, I1), rfl, rfl, ?_⟩
  refine im_r rfl rfl trivial rfl ?_
  exact ⟨rfl, q1, u1, c1, k1, h31, hk1, hTS.2.2.2, rfl⟩
set_option maxHeartbeats 16000000 in
theorem cw_lawN (hd : 82 ≤ d) (hT : T.length < 1000) (hT9 : T.length + 1 < 1000) (hA : tk_ok wA) (hb0 : 0 ≤ xv 0 ∧ xv 0 ≤ 400) (hkb : ∀ x, -1 ≤ wk x ∧ wk x ≤ 1000) (hcb2 : ∀ x, 0 ≤ wc x ∧ wc x ≤ 100000) (h3 : im_ir (wq 3)) (h4 : 0 ≤ v 4 ∧ v 4 < 6) {n : Nat} {Cs : List dC} (hall : d_all false (tk_C wA (xv 0)) (tk_X wA (xv 0)) n (tk_nt wA (xv 0)) = some (.inr Cs)) : ab_ct ro d 88 (im_k 95 [mr 0]) (im_w 95 T (CW (xv, (v, R, g), ik, y, (f, k, rw_), (cv, cb, cs, cwd), U, P, (wq, wA, wu, wc, wk), fr, I0, I1))) (fun o => ∃ q1 u1 c1 k1 ms, o = ((some (.inl (v 4))).map (im_v 95), im_w 95 (T ++ [cw_nt u1 c1 k1]) (CW ((pl_U (pl_U (pl_U xv 0 0) 13 (-1)) 12 (if (v 4) < 0 then (v 4) else 0)), (pl_U v 4 (v 4 + 1), R, im_up g (v 4) (some T.length)), ik, y, (f, k, rw_), (cv, cb, cs, cwd), U, P, (q1, wA, u1, c1, k1), (cw_fr (v 4) fr), I0, I1)), 3 * 1, ms) ∧ ms ≤ 501 ∧ (im_ir (q1 3) ∧ (∀ x, -1 ≤ k1 x ∧ k1 x ≤ 1000) ∧ (∀ x, 0 ≤ c1 x ∧ c1 x ≤ 100000)) ∧ (u1.2.1 = (Cs.length : Int) ∧ TS u1 c1 ∧ TXL false c1 u1.1 u1.2.2 k1 Cs)) := by
  obtain ⟨d, rfl⟩ : ∃ e, d = e + 1 := ⟨d - 1, by omega⟩
  refine ab_ct_of (by decide) rfl ?_
  show im_wg ro (ab_Ev ro ab_codes d) 8 (some .int) ab_k_X8_law 95 T (fun o => ∃ q1 u1 c1 k1 ms, o = ((some (.inl (v 4))).map (im_v 95), im_w 95 (T ++ [cw_nt u1 c1 k1]) (CW ((pl_U (pl_U (pl_U xv 0 0) 13 (-1)) 12 (if (v 4) < 0 then (v 4) else 0)), (pl_U v 4 (v 4 + 1), R, im_up g (v 4) (some T.length)), ik, y, (f, k, rw_), (cv, cb, cs, cwd), U, P, (q1, wA, u1, c1, k1), (cw_fr (v 4) fr), I0, I1)), 3 * 1, ms) ∧ ms ≤ 501 ∧ (im_ir (q1 3) ∧ (∀ x, -1 ≤ k1 x ∧ k1 x ≤ 1000) ∧ (∀ x, 0 ≤ c1 x ∧ c1 x ≤ 100000)) ∧ (u1.2.1 = (Cs.length : Int) ∧ TS u1 c1 ∧ TXL false c1 u1.1 u1.2.2 k1 Cs)) (0, [some (mr 0), none], [], CW (xv, (v, R, g), ik, y, (f, k, rw_), (cv, cb, cs, cwd), U, P, (wq, wA, wu, wc, wk), fr, I0, I1))
  refine im_gG 10 (y := (19, _, _, _)) rfl trivial ?_
  refine im_bTG rfl rfl ⟨(by first | omega | (constructor <;> omega)), (by first | omega | (constructor <;> omega)), trivial⟩ (by omega) ?_
  refine im_gG 5 (y := (36, _, _, _)) rfl trivial ?_
  refine im_callG [65,66,67,68,69] rfl rfl (c_readq (q := wq) (u := wu) (by omega) hT hA hb0 (od := false) hall hkb hcb2 h3) rfl rfl rfl (by decide) rfl (by decide) hT (fun v1 w1 hq => ?_)
  obtain ⟨q1, u1, c1, k1, rfl, h31, hTS, hk1, rfl, hn1, hL1⟩ := hq
  refine ⟨_, _, CW ((pl_U xv 0 0), (v, R, g), ik, y, (f, k, rw_), (cv, cb, cs, cwd), U, P, (q1, wA, u1, c1, k1), fr, I0, I1), rfl, rfl, rfl, ?_⟩
  refine im_gG 4 (y := (47, _, _, _)) rfl trivial ?_
  refine im_bTG rfl rfl ⟨(by decide), (by decide), trivial⟩ (by decide) ?_
  refine im_gG 9 (y := (78, _, _, _)) rfl trivial ?_
  refine im_eqsG (y := (78, _, [mr 67, .inl (v 4), mr 12], CW ((pl_U (pl_U xv 0 0) 13 (-1)), (v, R, g), ik, y, (f, k, rw_), (cv, cb, cs, cwd), U, P, (q1, wA, u1, c1, k1), fr, I0, I1))) rfl ?_
  refine im_trim (d := d) (QO' := fun o => o = ((some (.inl (v 4))).map (im_v 95), im_w 95 (T ++ [cw_nt u1 c1 k1]) (CW ((pl_U (pl_U (pl_U xv 0 0) 13 (-1)) 12 (if (v 4) < 0 then (v 4) else 0)), (pl_U v 4 (v 4 + 1), R, im_up g (v 4) (some T.length)), ik, y, (f, k, rw_), (cv, cb, cs, cwd), U, P, (q1, wA, u1, c1, k1), (cw_fr (v 4) fr), I0, I1)), 0, 0)) (by omega) rfl (by rfl) hT hTS.1 hTS.2.1 ?_ (fun v2 w2 mc2 ms2 hq ms hms => ?_)
  · have hT1 : (T ++ [cw_nt u1 c1 k1]).length < 1000 := by rw [List.length_append]; exact hT9
    have hTl : T.length < (T ++ [cw_nt u1 c1 k1]).length := by rw [List.length_append]; exact Nat.lt_succ_self _
    refine im_wgp (Q := fun r w => r = some (.inl (v 4)) ∧ w = CW ((pl_U (pl_U (pl_U xv 0 0) 13 (-1)) 12 (if (v 4) < 0 then (v 4) else 0)), (pl_U v 4 (v 4 + 1), R, im_up g (v 4) (some T.length)), ik, y, (f, k, rw_), (cv, cb, cs, cwd), U, P, (q1, wA, u1, c1, k1), (cw_fr (v 4) fr), I0, I1)) ?_ (fun v2 w2 _ hq => by obtain ⟨rfl, rfl⟩ := hq; rfl)
    refine im_eqs (y := (81, _, [mt T.length, .inl (v 4), mr 12], CW ((pl_U (pl_U xv 0 0) 13 (-1)), (v, R, g), ik, y, (f, k, rw_), (cv, cb, cs, cwd), U, P, (q1, wA, u1, c1, k1), fr, I0, I1))) rfl ?_
    refine im_as1 (pc := 81) rfl rfl (by omega) hT1 hTl rfl ?_
    refine im_eqs (y := (82, _, _, CW ((pl_U (pl_U xv 0 0) 13 (-1)), (v, R, im_up g (v 4) (some T.length)), ik, y, (f, k, rw_), (cv, cb, cs, cwd), U, P, (q1, wA, u1, c1, k1), fr, I0, I1))) rfl ?_
    refine im_g 13 (y := (105, _, _, _)) rfl trivial ?_
    refine im_eqs (y := (105, _, [.inl (v 4), mr 0], CW ((pl_U (pl_U xv 0 0) 13 (-1)), (pl_U v 4 (v 4 + 1), R, im_up g (v 4) (some T.length)), ik, y, (f, k, rw_), (cv, cb, cs, cwd), U, P, (q1, wA, u1, c1, k1), fr, I0, I1))) (congrArg (fun z : Int => ((105, _, [.inl z, mr 0], CW ((pl_U (pl_U xv 0 0) 13 (-1)), (pl_U v 4 (v 4 + 1), R, im_up g (v 4) (some T.length)), ik, y, (f, k, rw_), (cv, cb, cs, cwd), U, P, (q1, wA, u1, c1, k1), fr, I0, I1)) : im_S)) (by show v 4 + 1 - 1 = v 4; omega)) ?_
    refine im_eqs (y := (105, _, _, CW ((pl_U (pl_U xv 0 0) 13 (-1)), (pl_U v 4 (v 4 + 1), R, im_up g (v 4) (some T.length)), ik, y, (f, k, rw_), (cv, cb, cs, cwd), U, P, (q1, wA, u1, c1, k1), fr, I0, I1))) rfl ?_
    refine im_cX rfl rfl (cw_settle (x := (v 4)) (by omega) hT1 (by omega)) rfl hT1 (fun v1 w1 hq => ?_)
    obtain ⟨rfl, rfl⟩ := hq
    refine ⟨((pl_U (pl_U (pl_U xv 0 0) 13 (-1)) 12 (if (v 4) < 0 then (v 4) else 0)), (pl_U v 4 (v 4 + 1), R, im_up g (v 4) (some T.length)), ik, y, (f, k, rw_), (cv, cb, cs, cwd), U, P, (q1, wA, u1, c1, k1), (cw_fr (v 4) fr), I0, I1), rfl, rfl, ?_⟩
    refine im_r rfl rfl trivial rfl ?_
    exact ⟨rfl, rfl⟩
  · cases hq
    exact ⟨q1, u1, c1, k1, ms + 0, rfl, hms, ⟨h31, hk1, hTS.2.2.2⟩, hn1, hTS, hL1⟩
end Cl
