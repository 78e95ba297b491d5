/-! the reference: scratch aside; the fewest -/
def QZ (v : Nat → Int) (R : Nat → Int → Int) (v' : Nat → Int) (R' : Nat → Int → Int) : Prop := (∀ j, j ≠ 22 → j ≠ 23 → j ≠ 24 → j ≠ 25 → j ≠ 31 → v' j = v j) ∧ ∀ j, j ≠ 2 → j ≠ 5 → j ≠ 12 → j ≠ 16 → j ≠ 17 → R' j = R j
theorem QZ_0 (v : Nat → Int) (R : Nat → Int → Int) : QZ v R v R := ⟨fun _ _ _ _ _ _ => rfl, fun _ _ _ _ _ _ => rfl⟩
theorem QZ_ev {v : Nat → Int} {R : Nat → Int → Int} {v' : Nat → Int} {R' : Nat → Int → Int} (h : QZ v R v' R') (g ge b o : Int) (a : Int → Int) : QZ v R (EV4 v' g ge b o) (pl_U R' 12 a) := by
  refine ⟨fun j q1 q2 q3 q4 q5 => ?_, fun j q1 q2 q3 q4 q5 => ?_⟩
  · unfold EV4 pl_U
    rw [if_neg q4, if_neg q3, if_neg q2, if_neg q1]
    exact h.1 j q1 q2 q3 q4 q5
  · unfold pl_U
    rw [if_neg q3]
    exact h.2 j q1 q2 q3 q4 q5
theorem QZ_2 {v : Nat → Int} {R : Nat → Int → Int} {v' : Nat → Int} {R' : Nat → Int → Int} (h : QZ v R v' R') (K : Int → Int) : QZ v R v' (pl_U R' 2 K) := by
  refine ⟨h.1, fun j q1 q2 q3 q4 q5 => ?_⟩
  unfold pl_U
  rw [if_neg q1]
  exact h.2 j q1 q2 q3 q4 q5
theorem QZ_5 {v : Nat → Int} {R : Nat → Int → Int} {v' : Nat → Int} {R' : Nat → Int → Int} (h : QZ v R v' R') (K : Int → Int) : QZ v R v' (pl_U R' 5 K) := by
  refine ⟨h.1, fun j q1 q2 q3 q4 q5 => ?_⟩
  unfold pl_U
  rw [if_neg q2]
  exact h.2 j q1 q2 q3 q4 q5
theorem QZ_31 {v : Nat → Int} {R : Nat → Int → Int} {v' : Nat → Int} {R' : Nat → Int → Int} (h : QZ v R v' R') (x : Int) : QZ v R (pl_U v' 31 x) R' := by
  refine ⟨fun j q1 q2 q3 q4 q5 => ?_, h.2⟩
  unfold pl_U
  rw [if_neg q5]
  exact h.1 j q1 q2 q3 q4 q5
theorem QZ_t {v : Nat → Int} {R : Nat → Int → Int} {v' : Nat → Int} {R' : Nat → Int → Int} {v2 : Nat → Int} {R2 : Nat → Int → Int} (h : QZ v R v' R') (h2 : QZ v' R' v2 R2) : QZ v R v2 R2 := ⟨fun j q1 q2 q3 q4 q5 => (h2.1 j q1 q2 q3 q4 q5).trans (h.1 j q1 q2 q3 q4 q5), fun j q1 q2 q3 q4 q5 => (h2.2 j q1 q2 q3 q4 q5).trans (h.2 j q1 q2 q3 q4 q5)⟩
theorem QZ_B {v : Nat → Int} {R : Nat → Int → Int} {v' : Nat → Int} {R' : Nat → Int → Int} (h : QZ v R v' R') (h2 : R' 2 = R 2) : QB v R (MW v' R') := by
  refine ⟨v' 22, v' 23, v' 24, v' 25, v' 31, R' 5, R' 12, R' 16, R' 17, MW_ext (fun j _ => ?_) (fun j _ _ => ?_)⟩
  · unfold EV4 pl_U
    by_cases e31 : j = 31
    · rw [if_pos e31, e31]
    rw [if_neg e31]
    by_cases e25 : j = 25
    · rw [if_pos e25, e25]
    rw [if_neg e25]
    by_cases e24 : j = 24
    · rw [if_pos e24, e24]
    rw [if_neg e24]
    by_cases e23 : j = 23
    · rw [if_pos e23, e23]
    rw [if_neg e23]
    by_cases e22 : j = 22
    · rw [if_pos e22, e22]
    rw [if_neg e22]
    exact h.1 j e22 e23 e24 e25 e31
  · unfold pl_U
    by_cases e2 : j = 2
    · rw [if_pos e2, e2, h2]
    rw [if_neg e2]
    by_cases e17 : j = 17
    · rw [if_pos e17, e17]
    rw [if_neg e17]
    by_cases e16 : j = 16
    · rw [if_pos e16, e16]
    rw [if_neg e16]
    by_cases e12 : j = 12
    · rw [if_pos e12, e12]
    rw [if_neg e12]
    by_cases e5 : j = 5
    · rw [if_pos e5, e5]
    rw [if_neg e5]
    exact h.2 j e2 e5 e12 e16 e17
theorem wb_k_L (lw : Option im_T) (p : Int) (L : Nat → Int → Int) (C : Int → Int) : as_wk lw p 0 (pl_U L 2 C) = wb_k lw p (C p) L := as_wk_q ⟨rfl, rfl, rfl, rfl, rfl, rfl, rfl⟩
section Wk
variable {ro : ab_R} {T : List im_T} {d : Nat} {v : Nat → Int} {R : Nat → Int → Int} {lv : Nat → Int} {L : Nat → Int → Int} {lw : Option im_T}
theorem mw_1 (p : Int) : True := trivial
set_option maxHeartbeats 8000000 in
theorem m_walkBy (hd : 83 ≤ d) (hT : T.length < 1000) (ht : TLS v R lv L lw) (h30 : v 30 = 0) {set : Int} (hset : 0 ≤ set ∧ set ≤ 1023) (hin : ∀ x, 0 ≤ x → x < lv 0 → BT set x → ¬ L 0 x = -1) : im_ct ro T d 210 [mr 0, .inl set] (MW v R) (fun r w => r = some (.inl ((wb lw lv L set (lv 0).toNat).2)) ∧ ∃ v1 R1, w = MW v1 R1 ∧ QZ v R v1 R1 ∧ R1 2 = R 2) := by
  obtain ⟨d, rfl⟩ : ∃ e, d = e + 1 := ⟨d - 1, by omega⟩
  have hpar := lk_par ht.2.1
  have e110 : R 2 110 = lv 0 := ht.1.1.1
  refine im_ct_of (own := 9) (ret := (some .int)) (code := ab_k_X9_walkBy) (nL := 5) (L0 := [some (mr 0), some (.inl set), none, none, none]) (n := 24) rfl rfl rfl rfl rfl rfl rfl rfl rfl ?_
  refine im_g 2 (y := (2, _, _, _)) rfl trivial ?_
  refine im_cM rfl rfl (m_laysAside (v := v) (R := R) (k := 0) (by omega) hT (by decide)) rfl hT (fun v1 w1 hq => ?_)
  obtain ⟨rfl, rfl⟩ := hq
  refine ⟨v, (pl_U R 5 (im_cpy (R 2) (R 5) 0 (71 * 0) 71)), rfl, rfl, ?_⟩
  refine im_g 9 (y := (17, _, _, _)) rfl ⟨(by omega), trivial⟩ ?_
  have key : ∀ (j m : Nat), m + j = (lv 0).toNat → ∀ (v' : Nat → Int) (R' : Nat → Int → Int) (x4 : Option im_V), QZ v R v' R' → R' 5 = (im_cpy (R 2) (R 5) 0 (71 * 0) 71) → KR (R' 2) lv (pl_U L 2 (wb lw lv L set m).1) → (∀ i, (i < 0 ∨ 71 ≤ i) → R' 2 i = R 2 i) → im_wp ro (ab_Ev ro ab_codes d) 9 (some .int) ab_k_X9_walkBy 24 T (fun r w => r = some (.inl ((wb lw lv L set (lv 0).toNat).2)) ∧ ∃ v1 R1, w = MW v1 R1 ∧ QZ v R v1 R1 ∧ R1 2 = R 2) (17, [some (mr 0), some (.inl set), some (.inl ((wb lw lv L set m).2)), some (.inl (lv 0 - 1 - (m : Int))), x4], [], MW v' R') := by
    intro j
    induction j with
    | zero =>
      intro m hm v' R' x4 hz h5 hK hfr
      obtain rfl : m = (lv 0).toNat := by omega
      refine im_g 1 (y := (18, _, _, _)) rfl trivial ?_
      refine im_bT rfl rfl ⟨(by omega), trivial⟩ (by omega) ?_
      refine im_g 2 (y := (67, _, _, _)) rfl trivial ?_
      refine im_cM rfl rfl (m_takesBack (v := v') (R := R') (k := 0) (by omega) hT (by decide)) rfl hT (fun v1 w1 hq => ?_)
      obtain ⟨rfl, rfl⟩ := hq
      refine ⟨v', (pl_U R' 2 (im_cpy (R' 5) (R' 2) (71 * 0) 0 71)), rfl, rfl, ?_⟩
      refine im_g 1 (y := (71, _, _, _)) rfl trivial ?_
      refine im_r rfl rfl trivial rfl ?_
      have eb : im_cpy (R' 5) (R' 2) (71 * 0) 0 71 = R 2 := by rw [h5]; exact im_cpy_back hfr
      refine ⟨rfl, _, _, rfl, QZ_2 hz _, ?_⟩
      exact eb
    | succ j ih =>
      intro m hm v' R' x4 hz h5 hK hfr
      have hp : 0 ≤ lv 0 - 1 - (m : Int) ∧ lv 0 - 1 - (m : Int) < lv 0 := by omega
      obtain ⟨q1, q2, q3⟩ := wb_b lw ht.2.1 set m
      have e9 : wb lw lv L set (m + 1) = wb_1 lw lv L set (lv 0 - 1 - (m : Int)) (wb lw lv L set m) := rfl
      generalize (wb lw lv L set m) = z at q1 q2 q3 e9 hK ⊢
      generalize hpp : lv 0 - 1 - (m : Int) = p at hp e9 ⊢
      have hlo := LOK_cnt ht.2.1 q1
      have h30 : v' 30 = 0 := (hz.1 30 (by decide) (by decide) (by decide) (by decide) (by decide)).trans h30
      have htl : TLS v' R' lv (pl_U L 2 z.1) lw := ⟨hK, hlo, ht.2.2.1, KT_fr ht.2.2.2.1 (fun i hi => hfr i (Or.inr hi)), KLW_fr ht.2.2.2.2.1 (fun i hi => hfr i (Or.inr hi)), Or.inl h30⟩
      have hp10 : 0 ≤ p ∧ p < 10 := by omega
      have hkb := wb_k_b lw p (z.1 p) L
      have eK := wb_k_L lw p L z.1
      have hbb := as_bar_b lw p 0 (pl_U L 2 z.1)
      have hki := KT_ir hK hlo
      have hkp := KR_p hK hlo p hp10.1 hp10.2
      have hlw := lk_low ht.2.1 hp.1 hp.2
      have hbl := lk_bel ht.2.1 p
      have e71 : R' 2 (71 + p) = L 0 p := (hK.2.2.1 p hp10.1 hp10.2).1
      refine im_g 1 (y := (18, _, _, _)) rfl trivial ?_
      refine im_bF rfl rfl ⟨(by omega), trivial⟩ (by omega) ?_
      refine im_g 2 (y := (23, _, _, _)) rfl trivial ?_
      refine im_cM rfl rfl (show im_ct ro T d 188 [mr 0, .inl p] (MW v' R') (fun r w => r = some (.inl (as_bar lw p 0 (pl_U L 2 z.1))) ∧ QS v' R' w) from (by have t := m_barred (ro := ro) (T := T) (d := d) (v := v') (R := R') (lv := lv) (L := pl_U L 2 z.1) (lw := lw) (p := p) (by omega) hT htl hp10; rw [show v' 30 = 0 from h30] at t; exact t)) rfl hT (fun v1 w1 hq => ?_)
      obtain ⟨rfl, g1, ge1, b1, o1, a1, rfl⟩ := hq
      refine ⟨(EV4 v' g1 ge1 b1 o1), (pl_U R' 12 a1), rfl, rfl, ?_⟩
      refine im_b rfl rfl ⟨(by show im_ir (as_bar lw p 0 (pl_U L 2 z.1)); constructor <;> omega), trivial⟩ (fun br1 => ?_) (fun br1 => ?_)
      · have hb0 : as_bar lw p 0 (pl_U L 2 z.1) = 0 := br1
        have ew : (as_over lw p 0 (pl_U L 2 z.1) - as_stay lw p 0 (pl_U L 2 z.1)) = wb_k lw p (z.1 p) L := by rw [← eK]; exact (if_pos hb0).symm
        refine im_g 2 (y := (34, _, _, _)) rfl trivial ?_
        refine im_cM rfl rfl (show im_ct ro T d 186 [mr 0, .inl p] (MW (EV4 v' g1 ge1 b1 o1) (pl_U R' 12 a1)) (fun r w => r = some (.inl ((as_over lw p 0 (pl_U L 2 z.1) - as_stay lw p 0 (pl_U L 2 z.1)))) ∧ QS (EV4 v' g1 ge1 b1 o1) (pl_U R' 12 a1) w) from (by have t := m_walkers (ro := ro) (T := T) (d := d) (v := (EV4 v' g1 ge1 b1 o1)) (R := (pl_U R' 12 a1)) (lv := lv) (L := pl_U L 2 z.1) (lw := lw) (p := p) (by omega) hT (TLS_q htl _ _ _ _ _) hp10; rw [show (EV4 v' g1 ge1 b1 o1) 30 = 0 from h30] at t; exact t)) rfl hT (fun v1 w1 hq => ?_)
        obtain ⟨rfl, g2, ge2, b2, o2, a2, rfl⟩ := hq
        refine ⟨(EV4 (EV4 v' g1 ge1 b1 o1) g2 ge2 b2 o2), (pl_U (pl_U R' 12 a1) 12 a2), rfl, rfl, ?_⟩
        rw [ew]
        refine im_g 7 (y := (46, _, _, _)) rfl trivial ?_
        refine im_call [] rfl rfl (m_isIn (a := set) (b := p) (by omega) hT) rfl rfl rfl (by decide) rfl (by decide) hT (fun v1 w1 hq => ?_)
        obtain ⟨rfl, rfl⟩ := hq
        refine ⟨_, _, MW (EV4 (EV4 v' g1 ge1 b1 o1) g2 ge2 b2 o2) (pl_U (pl_U R' 12 a1) 12 a2), rfl, rfl, rfl, ?_⟩
        refine im_b rfl rfl ⟨(by omega), trivial⟩ (fun br2 => ?_) (fun br2 => ?_)
        · have d49 : ¬ (im_and (im_shr set p) 1 = 1) := by
            intro hh
            rw [if_pos hh] at br2
            exact absurd br2 (by decide)
          clear br2
          have h2m : im_and (im_shr set p) 1 = 0 ∨ im_and (im_shr set p) 1 = 1 := by rw [im_and1]; omega
          have c49 : im_and (im_shr set p) 1 = 0 := by omega
          refine im_g 2 (y := (17, _, _, _)) rfl trivial ?_
          have e2 : (wb lw lv L set (m + 1)).2 = z.2 + wb_k lw p (z.1 p) L := by rw [e9]; rfl
          have e1 : (wb lw lv L set (m + 1)).1 = z.1 := by rw [e9]; exact if_pos c49
          have t := ih (m + 1) (by omega) (EV4 (EV4 v' g1 ge1 b1 o1) g2 ge2 b2 o2) (pl_U (pl_U R' 12 a1) 12 a2) (some (.inl (wb_k lw p (z.1 p) L))) (QZ_ev (QZ_ev hz _ _ _ _ _) _ _ _ _ _) h5 (by rw [e1]; exact hK) hfr
          rw [e2, show lv 0 - 1 - ((m + 1 : Nat) : Int) = p + -1 by omega] at t
          exact t
        · have d49 : im_and (im_shr set p) 1 = 1 := by
            by_cases hh : im_and (im_shr set p) 1 = 1
            · exact hh
            · rw [if_neg hh] at br2; exact absurd rfl br2
          clear br2
          have h2m : im_and (im_shr set p) 1 = 0 ∨ im_and (im_shr set p) 1 = 1 := by rw [im_and1]; omega
          have c49 : ¬ im_and (im_shr set p) 1 = 0 := by omega
          have hne := hin p hp.1 hp.2 c49
          have hhas : 0 ≤ L 0 p ∧ L 0 p < lv 0 ∧ L 0 p < 10 := by omega
          have ekm : km_arr p (wb_k lw p (z.1 p) L) (EV4 (EV4 v' g1 ge1 b1 o1) g2 ge2 b2 o2) (pl_U (pl_U R' 12 a1) 12 a2) = ((EV4 (EV4 v' g1 ge1 b1 o1) g2 ge2 b2 o2), pl_U (pl_U (pl_U R' 12 a1) 12 a2) 2 (im_up (R' 2) (0 + L 0 p) (min 999 (R' 2 (0 + L 0 p) + wb_k lw p (z.1 p) L)))) := by
            have e : (pl_U (pl_U R' 12 a1) 12 a2) 2 (71 + p) = L 0 p := e71
            unfold km_arr
            rw [e, if_neg hne]
            rfl
          refine im_g 3 (y := (56, _, _, _)) rfl trivial ?_
          refine im_cM rfl rfl (m_arrives (v := (EV4 (EV4 v' g1 ge1 b1 o1) g2 ge2 b2 o2)) (R := (pl_U (pl_U R' 12 a1) 12 a2)) (p := p) (n := wb_k lw p (z.1 p) L) (by omega) hT (by omega) (by omega) hkp.1 hki.2.2.1 (fun x q1 q2 => (KR_p hK hlo x q1 q2).2.2.1)) rfl hT (fun v1 w1 hq => ?_)
          obtain ⟨rfl, rfl⟩ := hq
          refine ⟨(km_arr p (wb_k lw p (z.1 p) L) (EV4 (EV4 v' g1 ge1 b1 o1) g2 ge2 b2 o2) (pl_U (pl_U R' 12 a1) 12 a2)).1, (km_arr p (wb_k lw p (z.1 p) L) (EV4 (EV4 v' g1 ge1 b1 o1) g2 ge2 b2 o2) (pl_U (pl_U R' 12 a1) 12 a2)).2, rfl, rfl, ?_⟩
          rw [ekm]
          refine im_g 2 (y := (17, _, _, _)) rfl trivial ?_
          have e2 : (wb lw lv L set (m + 1)).2 = z.2 + wb_k lw p (z.1 p) L := by rw [e9]; rfl
          have e1 : (wb lw lv L set (m + 1)).1 = im_up z.1 (L 0 p) (min 999 (z.1 (L 0 p) + wb_k lw p (z.1 p) L)) := by rw [e9]; exact (if_neg c49).trans (if_pos hhas)
          have ecb : R' 2 (0 + L 0 p) = z.1 (L 0 p) := (hK.2.2.1 (L 0 p) hhas.1 hhas.2.2).2.2.1
          have hK2 : KR (im_up (R' 2) (0 + L 0 p) (min 999 (R' 2 (0 + L 0 p) + wb_k lw p (z.1 p) L))) lv (pl_U L 2 (im_up z.1 (L 0 p) (min 999 (z.1 (L 0 p) + wb_k lw p (z.1 p) L)))) := by
            rw [ecb]
            have t := KR_cnt hK (p := L 0 p) ⟨hhas.1, hhas.2.2⟩ (min 999 (z.1 (L 0 p) + wb_k lw p (z.1 p) L))
            exact t
          have t := ih (m + 1) (by omega) (EV4 (EV4 v' g1 ge1 b1 o1) g2 ge2 b2 o2) (pl_U (pl_U (pl_U R' 12 a1) 12 a2) 2 (im_up (R' 2) (0 + L 0 p) (min 999 (R' 2 (0 + L 0 p) + wb_k lw p (z.1 p) L)))) (some (.inl (wb_k lw p (z.1 p) L))) (QZ_2 (QZ_ev (QZ_ev hz _ _ _ _ _) _ _ _ _ _) _) h5 (by rw [e1]; exact hK2) (fun i hi => (im_up_ne _ _ (by omega)).trans (hfr i hi))
          rw [e2, show lv 0 - 1 - ((m + 1 : Nat) : Int) = p + -1 by omega] at t
          exact t
      · have hb0 : ¬ as_bar lw p 0 (pl_U L 2 z.1) = 0 := br1
        refine im_g 3 (y := (17, _, _, _)) rfl trivial ?_
        have hw0 : wb_k lw p (z.1 p) L = 0 := by rw [← eK]; exact if_neg (by omega)
        have e1 : (wb lw lv L set (m + 1)).1 = z.1 := by
          rw [e9]
          show (if _ then _ else if _ then _ else _) = _
          by_cases c1 : im_and (im_shr set p) 1 = 0
          · exact if_pos c1
          refine (if_neg c1).trans ?_
          by_cases c2 : 0 ≤ L 0 p ∧ L 0 p < lv 0 ∧ L 0 p < 10
          · refine (if_pos c2).trans ?_
            have t := q1 (L 0 p)
            rw [hw0, show min 999 (z.1 (L 0 p) + 0) = z.1 (L 0 p) by omega]
            exact im_up_id _ _
          · exact if_neg c2
        have e2 : (wb lw lv L set (m + 1)).2 = z.2 := by
          have t : (wb lw lv L set (m + 1)).2 = z.2 + wb_k lw p (z.1 p) L := by rw [e9]; rfl
          omega
        have t := ih (m + 1) (by omega) (EV4 v' g1 ge1 b1 o1) (pl_U R' 12 a1) x4 (QZ_ev hz _ _ _ _ _) h5 (by rw [e1]; exact hK) hfr
        rw [e2, show lv 0 - 1 - ((m + 1 : Nat) : Int) = p + -1 by omega] at t
        exact t
  have t := key (lv 0).toNat 0 (by omega) v (pl_U R 5 (im_cpy (R 2) (R 5) 0 (71 * 0) 71)) none (QZ_5 (QZ_0 v R) _) rfl ht.1 (fun _ _ => rfl)
  rw [show lv 0 - 1 - ((0 : Nat) : Int) = R 2 110 - 1 by omega] at t
  exact t
theorem im_and_0 (x : Int) : im_and 0 x = 0 := by
  unfold im_and
  show (BitVec.ofInt 32 0 &&& BitVec.ofInt 32 x).toInt = 0
  rw [show BitVec.ofInt 32 0 = 0#32 from rfl, BitVec.zero_and]
  rfl
set_option maxHeartbeats 8000000 in
theorem m_fewest (hd : 84 ≤ d) (hT : T.length < 1000) (ht : TLS v R lv L lw) (h30 : v 30 = 0) {wh : Int} (hw : im_ir wh) : im_ct ro T d 211 [mr 0, .inl wh] (MW v R) (fun r w => r = some (.inl (if 0 ≤ wh ∧ wh ≤ 1 then (if wh = 0 then (fe_ans lw lv L).1 else (fe_ans lw lv L).2) else -1)) ∧ QB v R w) := by
  obtain ⟨d, rfl⟩ : ∃ e, d = e + 1 := ⟨d - 1, by omega⟩
  have hpar := lk_par ht.2.1
  have e110 : R 2 110 = lv 0 := ht.1.1.1
  have hinb := in_b_b L (lv 0).toNat (by omega)
  refine im_ct_of (own := 9) (ret := (some .int)) (code := ab_k_X9_fewest) (nL := 7) (L0 := [some (mr 0), some (.inl wh), none, none, none, none, none]) (n := 24) rfl rfl rfl rfl rfl rfl rfl rfl rfl ?_
  refine im_g 3 (y := (3, _, _, _)) rfl trivial ?_
  refine im_call [] rfl rfl (m_lies (x := wh) (a := 0) (b := 1) (by omega) hT (by omega) (by omega) (by omega)) rfl rfl rfl (by decide) rfl (by decide) hT (fun v1 w1 hq => ?_)
  obtain ⟨rfl, rfl⟩ := hq
  refine ⟨_, _, MW v R, rfl, rfl, rfl, ?_⟩
  refine im_b rfl rfl ⟨(by omega), trivial⟩ (fun br1 => ?_) (fun br1 => ?_)
  · have c6 : 0 ≤ wh ∧ wh ≤ 1 := by
      by_cases hh : 0 ≤ wh ∧ wh ≤ 1
      · exact hh
      · rw [if_neg hh] at br1; exact absurd rfl br1
    clear br1
    refine im_g 4 (y := (15, _, _, _)) rfl trivial ?_
    have hwh : 0 ≤ wh ∧ wh ≤ 1 := c6
    have kb : ∀ (j k : Nat), (k : Int) + j = lv 0 → im_wp ro (ab_Ev ro ab_codes d) 9 (some .int) ab_k_X9_fewest 24 T (fun r w => r = some (.inl (if 0 ≤ wh ∧ wh ≤ 1 then (if wh = 0 then (fe_ans lw lv L).1 else (fe_ans lw lv L).2) else -1)) ∧ QB v R w) (15, [some (mr 0), some (.inl wh), some (.inl (in_b L k)), some (.inl (k : Int)), none, none, none], [], MW v R) := by
      intro j
      induction j with
      | zero =>
        intro k hk
        obtain rfl : k = (lv 0).toNat := by omega
        refine im_g 5 (y := (23, _, _, _)) rfl ⟨(by omega), trivial⟩ ?_
        refine im_bT rfl rfl ⟨(by omega), (by omega), trivial⟩ (by omega) ?_
        refine im_g 6 (y := (64, _, _, _)) rfl trivial ?_
        have key : ∀ (j m : Nat), (m : Int) + j = (in_b L (lv 0).toNat) → ∀ (v' : Nat → Int) (R' : Nat → Int → Int) (x6 : Option im_V), QZ v R v' R' → R' 2 = R 2 → im_wp ro (ab_Ev ro ab_codes d) 9 (some .int) ab_k_X9_fewest 24 T (fun r w => r = some (.inl (if 0 ≤ wh ∧ wh ≤ 1 then (if wh = 0 then (fe_ans lw lv L).1 else (fe_ans lw lv L).2) else -1)) ∧ QB v R w) (64, [some (mr 0), some (.inl wh), some (.inl (in_b L (lv 0).toNat)), some (.inl ((fe lw lv L (in_b L (lv 0).toNat) m).2)), some (.inl ((fe lw lv L (in_b L (lv 0).toNat) m).1)), some (.inl ((m : Int) + 1)), x6], [], MW v' R') := by
          intro j
          induction j with
          | zero =>
            intro m hm v' R' x6 hz h2
            have hfb := fe_b lw ht.2.1 (in_b L (lv 0).toNat) m
            obtain rfl : m = (in_b L (lv 0).toNat).toNat := by omega
            refine im_g 2 (y := (67, _, _, _)) rfl trivial ?_
            refine im_bT rfl rfl ⟨(by omega), (by omega), trivial⟩ (by omega) ?_
            refine im_g 1 (y := (114, _, _, _)) rfl trivial ?_
            refine im_b rfl rfl ⟨(by omega), trivial⟩ (fun br1 => ?_) (fun br1 => ?_)
            · refine im_g 1 (y := (123, _, _, _)) rfl trivial ?_
              refine im_r rfl rfl trivial rfl ?_
              rw [if_pos hwh, if_neg (by omega)]
              exact ⟨rfl, QZ_B hz h2⟩
            · refine im_g 2 (y := (123, _, _, _)) rfl trivial ?_
              refine im_r rfl rfl trivial rfl ?_
              rw [if_pos hwh, if_pos (by omega)]
              exact ⟨rfl, QZ_B hz h2⟩
          | succ j ih =>
            intro m hm v' R' x6 hz h2
            have hfb := fe_b lw ht.2.1 (in_b L (lv 0).toNat) m
            have hwb := (wb_b lw ht.2.1 ((m : Int) + 1) (lv 0).toNat).2
            have ef : fe lw lv L (in_b L (lv 0).toNat) (m + 1) = if im_and ((m : Int) + 1) (im_xor (in_b L (lv 0).toNat) (-1)) = 0 ∧ (wb lw lv L ((m : Int) + 1) (lv 0).toNat).2 < (fe lw lv L (in_b L (lv 0).toNat) m).1 then ((wb lw lv L ((m : Int) + 1) (lv 0).toNat).2, ((m : Int) + 1)) else fe lw lv L (in_b L (lv 0).toNat) m := rfl
            generalize hu : (in_b L (lv 0).toNat) = u at hm hinb hfb ef ih ⊢
            have h30' : v' 30 = 0 := (hz.1 30 (by decide) (by decide) (by decide) (by decide) (by decide)).trans h30
            have htl : TLS v' R' lv L lw := by
              obtain ⟨x1, x2, x3, x4, x5, x6⟩ := ht
              unfold TLS
              rw [h2]
              exact ⟨x1, x2, x3, x4, x5, Or.inl h30'⟩
            refine im_g 2 (y := (67, _, _, _)) rfl trivial ?_
            refine im_bF rfl rfl ⟨(by omega), (by omega), trivial⟩ (by omega) ?_
            refine im_g 5 (y := (76, _, _, _)) rfl trivial ?_
            refine im_b rfl rfl ⟨(by exact im_and_ir ((m : Int) + 1) (im_xor u (-1))), trivial⟩ (fun br1 => ?_) (fun br1 => ?_)
            · have hclr : im_and ((m : Int) + 1) (im_xor u (-1)) = 0 := br1
              refine im_g 2 (y := (85, _, _, _)) rfl trivial ?_
              refine im_cM rfl rfl (m_walkBy (v := v') (R := R') (lv := lv) (L := L) (lw := lw) (by omega) hT htl h30' (set := ((m : Int) + 1)) (by omega) (fun x q1 q2 q3 => (hinb.2 x q1 (by omega) (by obtain ⟨nu, hnu⟩ : ∃ n : Nat, u = n := ⟨u.toNat, by omega⟩; obtain ⟨nx, hnx⟩ : ∃ n : Nat, x = n := ⟨x.toNat, by omega⟩; subst hnx; rw [hnu]; exact im_clear (s := m + 1) (u := nu) (by omega) (by omega) (by rw [← hnu]; exact hclr) (by omega) q3)).2)) rfl hT (fun v1 w1 hq => ?_)
              obtain ⟨rfl, v1, R1, rfl, hz1, h21⟩ := hq
              refine ⟨v1, R1, rfl, rfl, ?_⟩
              refine im_g 3 (y := (94, _, _, _)) rfl trivial ?_
              refine im_b rfl rfl ⟨(by omega), (by omega), trivial⟩ (fun br2 => ?_) (fun br2 => ?_)
              · refine im_g 6 (y := (64, _, _, _)) rfl trivial ?_
                rw [if_pos ⟨by omega, by omega⟩] at ef
                have t := ih (m + 1) (by omega) v1 R1 (some (.inl (wb lw lv L ((m : Int) + 1) (lv 0).toNat).2)) (QZ_t hz hz1) (h21.trans h2)
                rw [ef, show ((m + 1 : Nat) : Int) + 1 = (m : Int) + 1 + 1 by omega] at t
                exact t
              · refine im_g 3 (y := (64, _, _, _)) rfl trivial ?_
                rw [if_neg (fun z => absurd z.2 (by omega))] at ef
                have t := ih (m + 1) (by omega) v1 R1 (some (.inl (wb lw lv L ((m : Int) + 1) (lv 0).toNat).2)) (QZ_t hz hz1) (h21.trans h2)
                rw [ef, show ((m + 1 : Nat) : Int) + 1 = (m : Int) + 1 + 1 by omega] at t
                exact t
            · refine im_g 3 (y := (64, _, _, _)) rfl trivial ?_
              rw [if_neg (fun z => absurd z.1 (by assumption))] at ef
              have t := ih (m + 1) (by omega) v' R' x6 hz h2
              rw [ef, show ((m + 1 : Nat) : Int) + 1 = (m : Int) + 1 + 1 by omega] at t
              exact t
        have hw0 := (wb_b lw ht.2.1 0 (lv 0).toNat).2
        refine im_g 2 (y := (67, _, _, _)) rfl trivial ?_
        refine im_bF rfl rfl ⟨(by omega), (by omega), trivial⟩ (by omega) ?_
        refine im_g 5 (y := (76, _, _, _)) rfl trivial ?_
        refine im_bT rfl rfl ⟨(by exact im_and_ir 0 (im_xor (in_b L (lv 0).toNat) (-1))), trivial⟩ (im_and_0 (im_xor (in_b L (lv 0).toNat) (-1))) ?_
        refine im_g 2 (y := (85, _, _, _)) rfl trivial ?_
        refine im_cM rfl rfl (m_walkBy (v := v) (R := R) (lv := lv) (L := L) (lw := lw) (by omega) hT ht h30 (set := 0) (by decide) (fun x q1 q2 q3 => absurd q3 (BT_0 x ⟨q1, by omega⟩))) rfl hT (fun v1 w1 hq => ?_)
        obtain ⟨rfl, v1, R1, rfl, hz1, h21⟩ := hq
        refine ⟨v1, R1, rfl, rfl, ?_⟩
        refine im_g 3 (y := (94, _, _, _)) rfl trivial ?_
        refine im_bT rfl rfl ⟨(by omega), (by omega), trivial⟩ (by omega) ?_
        refine im_g 6 (y := (64, _, _, _)) rfl trivial ?_
        exact key (in_b L (lv 0).toNat).toNat 0 (by omega) v1 R1 _ hz1 h21
      | succ j ih =>
        intro k hk
        have hik := in_b_b L k (by omega)
        have hbk := lk_bel ht.2.1 (k : Int)
        have e71 := (ht.1.2.2.1 (k : Int) (by omega) (by omega)).1
        refine im_g 5 (y := (23, _, _, _)) rfl ⟨(by omega), trivial⟩ ?_
        refine im_bF rfl rfl ⟨(by omega), (by omega), trivial⟩ (by omega) ?_
        refine im_g 8 (y := (37, _, _, _)) rfl ⟨(by omega), trivial⟩ ?_
        refine im_b rfl rfl ⟨(by omega), (by omega), trivial⟩ (fun br1 => ?_) (fun br1 => ?_)
        · refine im_g 7 (y := (15, _, _, _)) rfl trivial ?_
          have e1 : in_b L (k + 1) = im_or (in_b L k) (im_shl 1 (k : Int)) := by
            show im_or _ (if _ then _ else _) = _
            rw [if_neg (by omega)]
          have t := ih (k + 1) (by omega)
          rw [e1] at t
          exact t
        · refine im_g 6 (y := (15, _, _, _)) rfl trivial ?_
          have e1 : in_b L (k + 1) = im_or (in_b L k) (0) := by
            show im_or _ (if _ then _ else _) = _
            rw [if_pos (by omega)]
          have t := ih (k + 1) (by omega)
          rw [e1] at t
          exact t
    exact kb (lv 0).toNat 0 (by omega)
  · have c6 : ¬ (0 ≤ wh ∧ wh ≤ 1) := by
      intro hh
      rw [if_pos hh] at br1
      exact br1 (by decide)
    clear br1
    refine im_g 1 (y := (10, _, _, _)) rfl trivial ?_
    refine im_r rfl rfl trivial rfl ?_
    rw [if_neg c6]
    exact ⟨rfl, QB_0 v R⟩
end Wk
