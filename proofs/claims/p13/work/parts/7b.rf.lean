/-! the reference: days to come, years -/
theorem back_nn {K K' A : Int → Int} (h : ∀ i, 71 ≤ i → K' i = K i) : ∀ i, 0 ≤ i → im_cpy (im_cpy K A 0 (71 * 0) 71) K' (71 * 0) 0 71 i = K i := by
  intro j q
  by_cases hj : j < 71
  · rw [show im_cpy (im_cpy K A 0 (71 * 0) 71) K' (71 * 0) 0 71 j = im_cpy K A 0 (71 * 0) 71 (71 * 0 + (j - 0)) from if_pos (by omega)]
    rw [show im_cpy K A 0 (71 * 0) 71 (71 * 0 + (j - 0)) = K (0 + (71 * 0 + (j - 0) - 71 * 0)) from if_pos (by omega)]
    congr 1
    omega
  · rw [show im_cpy (im_cpy K A 0 (71 * 0) 71) K' (71 * 0) 0 71 j = K' j from if_neg (by omega)]
    exact h j (by omega)
theorem wlk_sum {K : Int → Int} {lv : Nat → Int} {L : Nat → Int → Int} (h : KR K lv L) : ∀ k : Nat, (k : Int) ≤ lv 1 → kp_wlk K k = pl_sum (L 5) k
  | 0, _ => rfl
  | k + 1, hk => by
    have ih := wlk_sum h k (by omega)
    show kp_wlk K k + K (20 + 3 * (k : Int) + 1) = pl_sum (L 5) k + L 5 (k : Int)
    rw [ih, (h.2.2.2.1 (k : Int) (by omega) (by omega)).2.1]
section Rf
variable {ro : ab_R} {T : List im_T} {d : Nat} {v : Nat → Int} {R : Nat → Int → Int} {lv : Nat → Int} {L : Nat → Int → Int} {lw : Option im_T}
set_option maxHeartbeats 8000000 in
theorem m_canR (hd : 84 ≤ d) (hT : T.length < 1000) (ht : TLS v R lv L lw) (h30 : v 30 = 0) {p : Int} (hp : 0 ≤ p ∧ p < lv 0) : im_ct ro T d 226 [mr 0, .inl p] (MW v R) (fun r w => r = some (.inl (if (as_bar lw p 0 L = 0 ∧ ((as_over lw p 0 L - as_stay lw p 0 L) = 0 ∨ lv 1 < 16)) then 1 else 0)) ∧ QS v R w) := by
  obtain ⟨d, rfl⟩ : ∃ e, d = e + 1 := ⟨d - 1, by omega⟩
  have hpar := lk_par ht.2.1
  have hgr := lk_grp ht.2.1
  have e68 := ht.1.1.2.1
  have hp10 : 0 ≤ p ∧ p < 10 := by omega
  have hbb := as_bar_b lw p 0 L
  have hob := as_over_b lw p 0 L
  have hsb := as_stay_b lw p 0 L
  refine im_ct_of (own := 9) (ret := (some .boolean)) (code := ab_k_X9_canReckon) (nL := 2) (L0 := [some (mr 0), some (.inl p)]) (n := 24) rfl rfl rfl rfl rfl rfl rfl rfl rfl ?_
  refine im_g 2 (y := (2, _, _, _)) rfl trivial ?_
  refine im_cM rfl rfl (show im_ct ro T d 188 [mr 0, .inl p] (MW v R) (fun r w => r = some (.inl (as_bar lw p 0 L)) ∧ QS v R w) from (by have t := m_barred (ro := ro) (T := T) (d := d) (v := v) (R := R) (lv := lv) (L := L) (lw := lw) (p := p) (by omega) hT ht hp10; rw [show v 30 = 0 from h30] at t; exact t)) rfl hT (fun v1 w1 hq => ?_)
  obtain ⟨rfl, g1, ge1, b1, o1, a1, rfl⟩ := hq
  refine ⟨(EV4 v g1 ge1 b1 o1), (pl_U R 12 a1), rfl, rfl, ?_⟩
  refine im_b rfl rfl ⟨(by show im_ir (as_bar lw p 0 L); constructor <;> omega), trivial⟩ (fun br1 => ?_) (fun br1 => ?_)
  · replace br1 : ¬ as_bar lw p 0 L = 0 := br1
    refine im_g 1 (y := (25, _, _, _)) rfl trivial ?_
    refine im_r rfl rfl ⟨(by decide), trivial⟩ rfl ?_
    rw [if_neg (fun z => absurd z.1 (by assumption))]
    exact ⟨rfl, g1, ge1, b1, o1, a1, rfl⟩
  · have hbz : as_bar lw p 0 L = 0 := by omega
    refine im_g 3 (y := (11, _, _, _)) rfl trivial ?_
    refine im_cM rfl rfl (show im_ct ro T d 186 [mr 0, .inl p] (MW (EV4 v g1 ge1 b1 o1) (pl_U R 12 a1)) (fun r w => r = some (.inl ((as_over lw p 0 L - as_stay lw p 0 L))) ∧ QS (EV4 v g1 ge1 b1 o1) (pl_U R 12 a1) w) from (by have t := m_walkers (ro := ro) (T := T) (d := d) (v := (EV4 v g1 ge1 b1 o1)) (R := (pl_U R 12 a1)) (lv := lv) (L := L) (lw := lw) (p := p) (by omega) hT (TLS_q ht _ _ _ _ _) hp10; rw [show (EV4 v g1 ge1 b1 o1) 30 = 0 from h30] at t; exact t)) rfl hT (fun v1 w1 hq => ?_)
    obtain ⟨rfl, g2, ge2, b2, o2, a2, rfl⟩ := hq
    refine ⟨(EV4 (EV4 v g1 ge1 b1 o1) g2 ge2 b2 o2), (pl_U (pl_U R 12 a1) 12 a2), rfl, rfl, ?_⟩
    refine im_cM rfl rfl (m_hasRoom (v := (EV4 (EV4 v g1 ge1 b1 o1) g2 ge2 b2 o2)) (R := (pl_U (pl_U R 12 a1) 12 a2)) (n := (as_over lw p 0 L - as_stay lw p 0 L)) (by omega) hT (by omega) (show 0 ≤ R 2 68 ∧ R 2 68 ≤ 16 by omega)) rfl hT (fun v1 w1 hq => ?_)
    obtain ⟨rfl, rfl⟩ := hq
    refine ⟨(EV4 (EV4 v g1 ge1 b1 o1) g2 ge2 b2 o2), (pl_U (pl_U R 12 a1) 12 a2), rfl, rfl, ?_⟩
    rw [show (pl_U (pl_U R 12 a1) 12 a2) 2 68 = lv 1 from ht.1.1.2.1]
    refine im_b rfl rfl ⟨(by split <;> decide), trivial⟩ (fun br2 => ?_) (fun br2 => ?_)
    · have c17 : ¬ ((as_over lw p 0 L - as_stay lw p 0 L) = 0 ∨ lv 1 < 16) := by
        intro hh
        rw [if_pos hh] at br2
        exact absurd br2 (by decide)
      clear br2
      refine im_g 1 (y := (25, _, _, _)) rfl trivial ?_
      refine im_r rfl rfl ⟨(by decide), trivial⟩ rfl ?_
      rw [if_neg (fun z => c17 z.2)]
      exact ⟨rfl, g2, ge2, b2, o2, a2, rfl⟩
    · have c17 : (as_over lw p 0 L - as_stay lw p 0 L) = 0 ∨ lv 1 < 16 := by
        by_cases hh : (as_over lw p 0 L - as_stay lw p 0 L) = 0 ∨ lv 1 < 16
        · exact hh
        · rw [if_neg hh] at br2; exact absurd rfl br2
      clear br2
      refine im_g 2 (y := (25, _, _, _)) rfl trivial ?_
      refine im_r rfl rfl ⟨(by decide), trivial⟩ rfl ?_
      rw [if_pos ⟨by assumption, c17⟩]
      exact ⟨rfl, g2, ge2, b2, o2, a2, rfl⟩
set_option maxHeartbeats 8000000 in
theorem m_flow (hd : 86 ≤ d) (hT : T.length < 1000) (ht : TLS v R lv L lw) (hd9 : L 7 0 ≤ 999) (h30 : v 30 = 0) {n wh : Int} (hn : im_ir n) (hw : im_ir wh) : im_ct ro T d 227 [mr 0, .inl n, .inl wh] (MW v R) (fun r w => r = some (.inl (if (1 ≤ n ∧ n ≤ 60) ∧ 0 ≤ wh ∧ wh ≤ 2 then (if wh = 0 then (ff lw lv L n.toNat).2.2.1 else if wh = 1 then (ff lw lv L n.toNat).2.2.2.1 else (ff lw lv L n.toNat).2.2.2.2) else -1)) ∧ ∃ v1 R1, w = MW v1 R1 ∧ QZ v R v1 R1 ∧ ∀ i, 0 ≤ i → R1 2 i = R 2 i) := by
  obtain ⟨d, rfl⟩ : ∃ e, d = e + 1 := ⟨d - 1, by omega⟩
  have hpar := lk_par ht.2.1
  refine im_ct_of (own := 9) (ret := (some .int)) (code := ab_k_X9_flow) (nL := 7) (L0 := [some (mr 0), some (.inl n), some (.inl wh), none, none, none, none]) (n := 24) rfl rfl rfl rfl rfl rfl rfl rfl rfl ?_
  refine im_g 3 (y := (4, _, _, _)) rfl trivial ?_
  refine im_call [] rfl rfl (m_lies (x := n) (a := 1) (b := 60) (by omega) hT (by omega) (by omega) (by omega)) rfl rfl rfl (by decide) rfl (by decide) hT (fun v1 w1 hq => ?_)
  obtain ⟨rfl, rfl⟩ := hq
  refine ⟨_, _, MW v R, rfl, rfl, rfl, ?_⟩
  refine im_b rfl rfl ⟨(by split <;> decide), trivial⟩ (fun br1 => ?_) (fun br1 => ?_)
  · have c7 : ¬ (1 ≤ n ∧ n ≤ 60) := by
      intro hh
      rw [if_pos hh] at br1
      exact absurd br1 (by decide)
    clear br1
    refine im_g 1 (y := (20, _, _, _)) rfl trivial ?_
    refine im_r rfl rfl trivial rfl ?_
    rw [if_neg (fun z => c7 z.1)]
    exact ⟨rfl, v, R, rfl, QZ_0 v R, fun _ _ => rfl⟩
  · have c7 : 1 ≤ n ∧ n ≤ 60 := by
      by_cases hh : 1 ≤ n ∧ n ≤ 60
      · exact hh
      · rw [if_neg hh] at br1; exact absurd rfl br1
    clear br1
    refine im_g 3 (y := (13, _, _, _)) rfl trivial ?_
    refine im_call [] rfl rfl (m_lies (x := wh) (a := 0) (b := 2) (by omega) hT (by omega) (by omega) (by omega)) rfl rfl rfl (by decide) rfl (by decide) hT (fun v1 w1 hq => ?_)
    obtain ⟨rfl, rfl⟩ := hq
    refine ⟨_, _, MW v R, rfl, rfl, rfl, ?_⟩
    refine im_b rfl rfl ⟨(by omega), trivial⟩ (fun br2 => ?_) (fun br2 => ?_)
    · have c16 : 0 ≤ wh ∧ wh ≤ 2 := by
        by_cases hh : 0 ≤ wh ∧ wh ≤ 2
        · exact hh
        · rw [if_neg hh] at br2; exact absurd rfl br2
      clear br2
      refine im_g 2 (y := (23, _, _, _)) rfl trivial ?_
      refine im_cM rfl rfl (m_laysAside (v := v) (R := R) (k := 0) (by omega) hT (by decide)) rfl hT (fun v1 w1 hq => ?_)
      obtain ⟨rfl, rfl⟩ := hq
      refine ⟨v, (pl_U R 5 (im_cpy (R 2) (R 5) 0 (71 * 0) 71)), rfl, rfl, ?_⟩
      refine im_g 9 (y := (39, _, _, _)) rfl trivial ?_
      have key : ∀ (j m : Nat), (m : Int) + j = n → ∀ (vx : Nat → Int) (Rx : Nat → Int → Int) (x6 : Option im_V), QZ v R vx Rx → Rx 5 = (im_cpy (R 2) (R 5) 0 (71 * 0) 71) → KR (Rx 2) (ff lw lv L m).1 (ff lw lv L m).2.1 → KFr (R 2) (Rx 2) → vx 31 = (ff lw lv L m).2.2.2.1 → im_wp ro (ab_Ev ro ab_codes d) 9 (some .int) ab_k_X9_flow 24 T (fun r w => r = some (.inl (if (1 ≤ n ∧ n ≤ 60) ∧ 0 ≤ wh ∧ wh ≤ 2 then (if wh = 0 then (ff lw lv L n.toNat).2.2.1 else if wh = 1 then (ff lw lv L n.toNat).2.2.2.1 else (ff lw lv L n.toNat).2.2.2.2) else -1)) ∧ ∃ v1 R1, w = MW v1 R1 ∧ QZ v R v1 R1 ∧ ∀ i, 0 ≤ i → R1 2 i = R 2 i) (39, [some (mr 0), some (.inl n), some (.inl wh), some (.inl ((ff lw lv L m).2.2.1)), some (.inl ((ff lw lv L m).2.2.2.2)), some (.inl ((m : Int) + 1)), x6], [], MW vx Rx) := by
        intro j
        induction j with
        | zero =>
          intro m hm vx Rx x6 hz h5 hK hfr h31
          obtain rfl : m = n.toNat := by omega
          have hI := FFI_m lw ht.2.1 hd9 n.toNat
          obtain ⟨i1, i2, i3, i4, i5, i6, i7⟩ := hI
          refine im_g 2 (y := (42, _, _, _)) rfl trivial ?_
          refine im_bT rfl rfl ⟨(by omega), (by omega), trivial⟩ (by omega) ?_
          refine im_g 2 (y := (127, _, _, _)) rfl trivial ?_
          refine im_cM rfl rfl (m_takesBack (v := vx) (R := Rx) (k := 0) (by omega) hT (by decide)) rfl hT (fun v1 w1 hq => ?_)
          obtain ⟨rfl, rfl⟩ := hq
          refine ⟨vx, (pl_U Rx 2 (im_cpy (Rx 5) (Rx 2) (71 * 0) 0 71)), rfl, rfl, ?_⟩
          refine im_g 1 (y := (131, _, _, _)) rfl trivial ?_
          refine im_b rfl rfl ⟨(by omega), trivial⟩ (fun br1 => ?_) (fun br1 => ?_)
          · refine im_g 2 (y := (140, _, _, _)) rfl trivial ?_
            refine im_b rfl rfl ⟨(by omega), (by omega), trivial⟩ (fun br2 => ?_) (fun br2 => ?_)
            · refine im_g 1 (y := (152, _, _, _)) rfl trivial ?_
              refine im_r rfl rfl trivial rfl ?_
              rw [if_pos ⟨c7, c16⟩, if_neg (by omega), if_neg (by omega)]
              exact ⟨rfl, vx, _, rfl, QZ_2 hz _, fun i hi => by show im_cpy (Rx 5) (Rx 2) (71 * 0) 0 71 i = R 2 i; rw [h5]; exact back_nn hfr i hi⟩
            · refine im_g 3 (y := (152, _, _, _)) rfl trivial ?_
              refine im_r rfl rfl trivial rfl ?_
              rw [if_pos ⟨c7, c16⟩, if_neg (by omega), if_pos (by omega)]
              exact ⟨congrArg (fun z => some (Sum.inl z)) h31, vx, _, rfl, QZ_2 hz _, fun i hi => by show im_cpy (Rx 5) (Rx 2) (71 * 0) 0 71 i = R 2 i; rw [h5]; exact back_nn hfr i hi⟩
          · refine im_g 2 (y := (152, _, _, _)) rfl trivial ?_
            refine im_r rfl rfl trivial rfl ?_
            rw [if_pos ⟨c7, c16⟩, if_pos (by omega)]
            exact ⟨rfl, vx, _, rfl, QZ_2 hz _, fun i hi => by show im_cpy (Rx 5) (Rx 2) (71 * 0) 0 71 i = R 2 i; rw [h5]; exact back_nn hfr i hi⟩
        | succ j ih =>
          intro m hm vx Rx x6 hz h5 hK hfr h31
          have hI := FFI_m lw ht.2.1 hd9 m
          have hzz := ff_z lw ht.2.1 hd9 m
          have e9 : ff lw lv L (m + 1) = ff_1 lw ((m : Int) + 1) (ff lw lv L m) := rfl
          generalize ff lw lv L m = z at hI hzz e9 hK h31 ⊢
          obtain ⟨d1, d2, d3, d4, d5⟩ := ff_d_ok (lw := lw) hI
          obtain ⟨i1, i2, i3, i4, i5, i6, i7⟩ := hI
          have hv0 := lk_par i1
          have hdg := lk_grp d1
          have go : ∀ (q k : Nat), k + q = (z.1 0).toNat → ∀ (vx : Nat → Int) (Rx : Nat → Int → Int), QZ v R vx Rx → Rx 5 = (im_cpy (R 2) (R 5) 0 (71 * 0) 71) → KR (Rx 2) (ff_go lw z.1 z.2.1 k).1 (ff_go lw z.1 z.2.1 k).2 → KFr (R 2) (Rx 2) → vx 31 = z.2.2.2.1 → im_wp ro (ab_Ev ro ab_codes d) 9 (some .int) ab_k_X9_flow 24 T (fun r w => r = some (.inl (if (1 ≤ n ∧ n ≤ 60) ∧ 0 ≤ wh ∧ wh ≤ 2 then (if wh = 0 then (ff lw lv L n.toNat).2.2.1 else if wh = 1 then (ff lw lv L n.toNat).2.2.2.1 else (ff lw lv L n.toNat).2.2.2.2) else -1)) ∧ ∃ v1 R1, w = MW v1 R1 ∧ QZ v R v1 R1 ∧ ∀ i, 0 ≤ i → R1 2 i = R 2 i) (48, [some (mr 0), some (.inl n), some (.inl wh), some (.inl (z.2.2.1)), some (.inl (z.2.2.2.2)), some (.inl ((m : Int) + 1)), some (.inl ((k : Int)))], [], MW vx Rx) := by
            intro q
            induction q with
            | zero =>
              intro k hk vx Rx hz h5 hK hfr h31
              obtain rfl : k = (z.1 0).toNat := by omega
              obtain ⟨g1, g2, g3, g4⟩ := ff_go_ok lw i1 (z.1 0).toNat
              have e1 : Rx 2 110 = z.1 0 := hK.1.1.trans g4
              refine im_g 5 (y := (57, _, _, _)) rfl ⟨(by omega), trivial⟩ ?_
              refine im_bT rfl rfl ⟨(by first | (rw [e1]; constructor <;> omega) | (constructor <;> omega)), (by first | (rw [e1]; constructor <;> omega) | (constructor <;> omega)), trivial⟩ (by rw [e1]; omega) ?_
              refine im_g 1 (y := (83, _, _, _)) rfl trivial ?_
              refine im_cM rfl rfl (m_day (v := vx) (R := Rx) (by omega) hT hK g1) rfl hT (fun v1 w1 hq => ?_)
              obtain ⟨rfl, K', c', rfl, hK2, hfr2, hc⟩ := hq
              refine ⟨(pl_U vx 31 c'), (pl_U Rx 2 K'), rfl, rfl, ?_⟩
              replace hK2 : KR K' (ff_d lw z).1 (ff_d lw z).2 := hK2
              replace hc : c' - vx 31 = (ff_d lw z).1 6 := hc
              have e68 : K' 68 = (ff_d lw z).1 1 := hK2.1.2.1
              have hc' : c' = z.2.2.2.1 + (ff_d lw z).1 6 := by omega
              refine im_g 2 (y := (88, _, _, _)) rfl trivial ?_
              refine im_b rfl rfl ⟨(by omega), trivial⟩ (fun br1 => ?_) (fun br1 => ?_)
              · refine im_g 7 (y := (114, _, _, _)) rfl ⟨(by omega), trivial⟩ ?_
                refine im_call [] rfl rfl (m_greater (a := z.2.2.2.2) (b := K' 68) (by omega) hT (by omega) (by rw [e68]; omega)) rfl rfl rfl (by decide) rfl (by decide) hT (fun v1 w1 hq => ?_)
                obtain ⟨rfl, rfl⟩ := hq
                refine ⟨_, _, MW (pl_U vx 31 c') (pl_U Rx 2 K'), rfl, rfl, rfl, ?_⟩
                refine im_g 3 (y := (39, _, _, _)) rfl trivial ?_
                have ef : (if z.2.2.1 = 0 ∧ 0 < (ff_d lw z).1 6 then (m : Int) + 1 else z.2.2.1) = z.2.2.1 := if_neg (by intro q; have t := hzz q.1; omega)
                have t := ih (m + 1) (by omega) (pl_U vx 31 c') (pl_U Rx 2 K') (some (.inl ((z.1 0).toNat : Int))) (QZ_2 (QZ_31 hz _) _) h5 (by rw [e9]; exact hK2) (fun i hi => (hfr2 i hi).trans (hfr i hi)) (by rw [e9]; exact hc')
                have a1 : (ff lw lv L (m + 1)).2.2.1 = (if z.2.2.1 = 0 ∧ 0 < (ff_d lw z).1 6 then (m : Int) + 1 else z.2.2.1) := by rw [e9]; rfl
                have a2 : (ff lw lv L (m + 1)).2.2.2.2 = max z.2.2.2.2 ((ff_d lw z).1 1) := by rw [e9]; rfl
                rw [a1, ef, a2, show ((m + 1 : Nat) : Int) + 1 = (m : Int) + 1 + 1 by omega, ← e68] at t
                exact t
              · refine im_g 2 (y := (95, _, _, _)) rfl trivial ?_
                refine im_b rfl rfl ⟨(by show im_ir c'; rw [hc']; constructor <;> omega), trivial⟩ (fun br2 => ?_) (fun br2 => ?_)
                · replace br2 : ¬ 0 < c' := by have t : c' ≤ 0 := br2; omega
                  refine im_g 7 (y := (114, _, _, _)) rfl ⟨(by omega), trivial⟩ ?_
                  refine im_call [] rfl rfl (m_greater (a := z.2.2.2.2) (b := K' 68) (by omega) hT (by omega) (by rw [e68]; omega)) rfl rfl rfl (by decide) rfl (by decide) hT (fun v1 w1 hq => ?_)
                  obtain ⟨rfl, rfl⟩ := hq
                  refine ⟨_, _, MW (pl_U vx 31 c') (pl_U Rx 2 K'), rfl, rfl, rfl, ?_⟩
                  refine im_g 3 (y := (39, _, _, _)) rfl trivial ?_
                  have ef : (if z.2.2.1 = 0 ∧ 0 < (ff_d lw z).1 6 then (m : Int) + 1 else z.2.2.1) = z.2.2.1 := if_neg (by intro q; have t := hzz q.1; omega)
                  have t := ih (m + 1) (by omega) (pl_U vx 31 c') (pl_U Rx 2 K') (some (.inl ((z.1 0).toNat : Int))) (QZ_2 (QZ_31 hz _) _) h5 (by rw [e9]; exact hK2) (fun i hi => (hfr2 i hi).trans (hfr i hi)) (by rw [e9]; exact hc')
                  have a1 : (ff lw lv L (m + 1)).2.2.1 = (if z.2.2.1 = 0 ∧ 0 < (ff_d lw z).1 6 then (m : Int) + 1 else z.2.2.1) := by rw [e9]; rfl
                  have a2 : (ff lw lv L (m + 1)).2.2.2.2 = max z.2.2.2.2 ((ff_d lw z).1 1) := by rw [e9]; rfl
                  rw [a1, ef, a2, show ((m + 1 : Nat) : Int) + 1 = (m : Int) + 1 + 1 by omega, ← e68] at t
                  exact t
                · replace br2 : 0 < c' := by have t : ¬ c' ≤ 0 := br2; omega
                  refine im_g 8 (y := (114, _, _, _)) rfl ⟨(by omega), trivial⟩ ?_
                  refine im_call [] rfl rfl (m_greater (a := z.2.2.2.2) (b := K' 68) (by omega) hT (by omega) (by rw [e68]; omega)) rfl rfl rfl (by decide) rfl (by decide) hT (fun v1 w1 hq => ?_)
                  obtain ⟨rfl, rfl⟩ := hq
                  refine ⟨_, _, MW (pl_U vx 31 c') (pl_U Rx 2 K'), rfl, rfl, rfl, ?_⟩
                  refine im_g 3 (y := (39, _, _, _)) rfl trivial ?_
                  have ef : (if z.2.2.1 = 0 ∧ 0 < (ff_d lw z).1 6 then (m : Int) + 1 else z.2.2.1) = (m : Int) + 1 := if_pos ⟨by omega, by have t := hzz (by omega); omega⟩
                  have t := ih (m + 1) (by omega) (pl_U vx 31 c') (pl_U Rx 2 K') (some (.inl ((z.1 0).toNat : Int))) (QZ_2 (QZ_31 hz _) _) h5 (by rw [e9]; exact hK2) (fun i hi => (hfr2 i hi).trans (hfr i hi)) (by rw [e9]; exact hc')
                  have a1 : (ff lw lv L (m + 1)).2.2.1 = (if z.2.2.1 = 0 ∧ 0 < (ff_d lw z).1 6 then (m : Int) + 1 else z.2.2.1) := by rw [e9]; rfl
                  have a2 : (ff lw lv L (m + 1)).2.2.2.2 = max z.2.2.2.2 ((ff_d lw z).1 1) := by rw [e9]; rfl
                  rw [a1, ef, a2, show ((m + 1 : Nat) : Int) + 1 = (m : Int) + 1 + 1 by omega, ← e68] at t
                  exact t
            | succ q ihq =>
              intro k hk vx Rx hz h5 hK hfr h31
              obtain ⟨g1, g2, g3, g4⟩ := ff_go_ok lw i1 k
              have e1 : Rx 2 110 = z.1 0 := hK.1.1.trans g4
              have h30x : vx 30 = 0 := (hz.1 30 (by decide) (by decide) (by decide) (by decide) (by decide)).trans h30
              have htl : TLS vx Rx (ff_go lw z.1 z.2.1 k).1 (ff_go lw z.1 z.2.1 k).2 lw := ⟨hK, g1, by rw [g2]; omega, KT_fr ht.2.2.2.1 hfr, by rw [g3, i3]; exact KLW_fr ht.2.2.2.2.1 hfr, Or.inl h30x⟩
              have hkp : 0 ≤ (k : Int) ∧ (k : Int) < (ff_go lw z.1 z.2.1 k).1 0 := by rw [g4]; omega
              have egs : ff_go lw z.1 z.2.1 (k + 1) = (pl_send lw (k : Int) (ff_go lw z.1 z.2.1 k).1 (ff_go lw z.1 z.2.1 k).2).2 := rfl
              have hob := as_over_b lw (k : Int) 0 (ff_go lw z.1 z.2.1 k).2
              have hsb := as_stay_b lw (k : Int) 0 (ff_go lw z.1 z.2.1 k).2
              refine im_g 5 (y := (57, _, _, _)) rfl ⟨(by omega), trivial⟩ ?_
              refine im_bF rfl rfl ⟨(by first | (rw [e1]; constructor <;> omega) | (constructor <;> omega)), (by first | (rw [e1]; constructor <;> omega) | (constructor <;> omega)), trivial⟩ (by rw [e1]; omega) ?_
              refine im_g 2 (y := (63, _, _, _)) rfl trivial ?_
              refine im_cM rfl rfl (m_canR (v := vx) (R := Rx) (by omega) hT htl h30x hkp) rfl hT (fun v1 w1 hq => ?_)
              obtain ⟨rfl, g1_, ge1, b1, o1, a1, rfl⟩ := hq
              refine ⟨(EV4 vx g1_ ge1 b1 o1), (pl_U Rx 12 a1), rfl, rfl, ?_⟩
              refine im_b rfl rfl ⟨(by split <;> decide), trivial⟩ (fun br1 => ?_) (fun br1 => ?_)
              · have c66 : ¬ ((as_bar lw (k : Int) 0 (ff_go lw z.1 z.2.1 k).2 = 0 ∧ (as_over lw (k : Int) 0 (ff_go lw z.1 z.2.1 k).2 - as_stay lw (k : Int) 0 (ff_go lw z.1 z.2.1 k).2 = 0 ∨ (ff_go lw z.1 z.2.1 k).1 1 < 16))) := by
                  intro hh
                  rw [if_pos hh] at br1
                  exact absurd br1 (by decide)
                clear br1
                refine im_g 2 (y := (48, _, _, _)) rfl trivial ?_
                have eno := pl_send_no (lw := lw) (p := (k : Int)) (v := (ff_go lw z.1 z.2.1 k).1) (R := (ff_go lw z.1 z.2.1 k).2) ⟨hkp.1, hkp.2, by have t := lk_par g1; omega⟩ c66
                rw [eno] at egs
                exact ihq (k + 1) (by omega) (EV4 vx g1_ ge1 b1 o1) (pl_U Rx 12 a1) (QZ_ev hz _ _ _ _ _) h5 (by rw [egs]; exact hK) hfr h31
              · have c66 : (as_bar lw (k : Int) 0 (ff_go lw z.1 z.2.1 k).2 = 0 ∧ (as_over lw (k : Int) 0 (ff_go lw z.1 z.2.1 k).2 - as_stay lw (k : Int) 0 (ff_go lw z.1 z.2.1 k).2 = 0 ∨ (ff_go lw z.1 z.2.1 k).1 1 < 16)) := by
                  by_cases hh : (as_bar lw (k : Int) 0 (ff_go lw z.1 z.2.1 k).2 = 0 ∧ (as_over lw (k : Int) 0 (ff_go lw z.1 z.2.1 k).2 - as_stay lw (k : Int) 0 (ff_go lw z.1 z.2.1 k).2 = 0 ∨ (ff_go lw z.1 z.2.1 k).1 1 < 16))
                  · exact hh
                  · rw [if_neg hh] at br1; exact absurd rfl br1
                clear br1
                refine im_g 2 (y := (72, _, _, _)) rfl trivial ?_
                refine im_cM rfl rfl (m_reckons (v := (EV4 vx g1_ ge1 b1 o1)) (R := (pl_U Rx 12 a1)) (by omega) hT (TLS_q htl _ _ _ _ _) h30x hkp c66.1 c66.2) rfl hT (fun v1 w1 hq => ?_)
                obtain ⟨rfl, K', ⟨g2_, ge2, b2, o2, a2, rfl⟩, hK2, hfr2⟩ := hq
                refine ⟨(EV4 (EV4 vx g1_ ge1 b1 o1) g2_ ge2 b2 o2), (pl_U (pl_U (pl_U Rx 12 a1) 12 a2) 2 K'), rfl, rfl, ?_⟩
                refine im_g 3 (y := (48, _, _, _)) rfl trivial ?_
                exact ihq (k + 1) (by omega) (EV4 (EV4 vx g1_ ge1 b1 o1) g2_ ge2 b2 o2) (pl_U (pl_U (pl_U Rx 12 a1) 12 a2) 2 K') (QZ_2 (QZ_ev (QZ_ev hz _ _ _ _ _) _ _ _ _ _) _) h5 (by rw [egs]; exact hK2) (fun i hi => (hfr2 i hi).trans (hfr i hi)) h31
          refine im_g 2 (y := (42, _, _, _)) rfl trivial ?_
          refine im_bF rfl rfl ⟨(by omega), (by omega), trivial⟩ (by omega) ?_
          refine im_g 2 (y := (48, _, _, _)) rfl trivial ?_
          exact go (z.1 0).toNat 0 (by omega) vx Rx hz h5 hK hfr h31
      exact key n.toNat 0 (by omega) (pl_U v 31 0) (pl_U R 5 (im_cpy (R 2) (R 5) 0 (71 * 0) 71)) none (QZ_31 (QZ_5 (QZ_0 v R) _) _) rfl ht.1 (fun _ _ => rfl) rfl
    · have c16 : ¬ (0 ≤ wh ∧ wh ≤ 2) := by
        intro hh
        rw [if_pos hh] at br2
        exact br2 (by decide)
      clear br2
      refine im_g 1 (y := (20, _, _, _)) rfl trivial ?_
      refine im_r rfl rfl trivial rfl ?_
      rw [if_neg (fun z => c16 z.2)]
      exact ⟨rfl, v, R, rfl, QZ_0 v R, fun _ _ => rfl⟩
set_option maxHeartbeats 8000000 in
theorem m_draws (hd : 1 ≤ d) (hT : T.length < 1000) {k : Int} (hk : 1 ≤ k ∧ k ≤ 1000) (h51 : 0 ≤ v 51 ∧ v 51 ≤ 1000003) : im_ct ro T d 234 [mr 0, .inl k] (MW v R) (fun r w => r = some (.inl (dr_next (v 51) % k)) ∧ w = MW (pl_U v 51 (dr_next (v 51))) R) := by
  obtain ⟨d, rfl⟩ : ∃ e, d = e + 1 := ⟨d - 1, by omega⟩
  refine im_ct_of (own := 9) (ret := (some .int)) (code := ab_k_X9_draws) (nL := 2) (L0 := [some (mr 0), some (.inl k)]) (n := 24) rfl rfl rfl rfl rfl rfl rfl rfl rfl ?_
  refine im_g 11 (y := (19, _, _, _)) rfl ⟨(by omega), (by omega), (by omega), (by omega), trivial⟩ ?_
  have e : (1103 * v 51 + 12345).tmod 1000003 = dr_next (v 51) := by
    rw [Int.tmod_eq_emod_of_nonneg (by omega)]
    unfold dr_next
    rw [Int.mul_comm]
  rw [e]
  have hdb := dr_next_b (s := v 51)
  refine im_g 5 (y := (28, _, _, _)) rfl ⟨(by first | (show im_ir (dr_next (v 51)); constructor <;> omega) | omega), (by first | (show im_ir (dr_next (v 51)); constructor <;> omega) | omega), (by first | (show im_ir (dr_next (v 51)); constructor <;> omega) | omega), trivial⟩ ?_
  refine im_r rfl rfl trivial rfl ?_
  have e2 : (dr_next (v 51)).tmod k = dr_next (v 51) % k := Int.tmod_eq_emod_of_nonneg (by omega)
  show some (Sum.inl ((dr_next (v 51)).tmod k)) = _ ∧ _
  rw [e2]
  exact ⟨rfl, rfl⟩
end Rf
