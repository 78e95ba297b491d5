/-! paper: the least lending -/
theorem im_up_lim {f : Int → Int} {k x a b : Int} (h : ∀ i, a ≤ f i ∧ f i ≤ b) (hx : a ≤ x ∧ x ≤ b) : ∀ i, a ≤ im_up f k x i ∧ im_up f k x i ≤ b := im_up_b h hx
theorem PRB_U {PR : Nat → Int → Int} (h : PRB PR) {r : Nat} {f : Int → Int} (hf : ∀ i, -1000000 ≤ f i ∧ f i ≤ 1000000) : PRB (pl_U PR r f) := by
  intro q i hq
  unfold pl_U
  split
  · exact hf i
  · exact h q i hq
theorem PRB_4 {PR : Nat → Int → Int} (h : PRB PR) (f : Int → Int) : PRB (pl_U PR 4 f) := by
  intro q i hq
  unfold pl_U
  rw [if_neg hq]
  exact h q i hq
section Fl
variable {ro : ab_R} {T : List im_T} {d : Nat}
set_option maxHeartbeats 8000000 in
theorem c_lent (hd : 2 ≤ d) (hT : T.length < 1000) {v : Nat → Int} {R : Nat → Int → Int} {g : Int → Option Nat} (h : LOK v R) {pv cv : Nat → Int} {b : Int} {s wd : Int → Int} {sv : Nat → Int} {sR : Nat → Int → Int} {sg : Int → Option Nat} {PR : Nat → Int → Int} (hpb : PRB PR) : im_ct ro T d 25 [mr 0, mr 24] (PC 0 pv cv b s wd sv sR sg PR ++ LC 24 v R g) (fun r w => ∃ pv1 PR1, PRB PR1 ∧ (∀ j, j ≠ 1 → pv1 j = pv j) ∧ (∀ j, j ≠ 2 → j ≠ 5 → PR1 j = PR j) ∧ r = some (.inl (if lt_ok (R 7 1) v R (v 0).toNat = true then 1 else 0)) ∧ (lt_ok (R 7 1) v R (v 0).toNat = true → pv1 1 = (lt_r (R 7 1) v R (v 0).toNat).2.2 ∧ ∀ p, 0 ≤ p → p < v 0 → PR1 5 p = (lt_r (R 7 1) v R (v 0).toNat).2.1 p) ∧ w = PC 0 pv1 cv b s wd sv sR sg PR1 ++ LC 24 v R g) := by
  obtain ⟨d, rfl⟩ : ∃ e, d = e + 1 := ⟨d - 1, by omega⟩
  have hpar := lk_par h
  have htr := lk_trm h
  have key : ∀ (j m : Nat), m + j = (v 0).toNat → lt_ok (R 7 1) v R m = true → ∀ (pv' : Nat → Int) (PR' : Nat → Int → Int) (x4 x5 : Option im_V), (∀ j, j ≠ 1 → pv' j = pv j) → pv' 1 = (lt_r (R 7 1) v R m).2.2 → (∀ j, j ≠ 2 → j ≠ 5 → PR' j = PR j) → PRB PR' → (∀ i, 0 ≤ i → i < 10 → PR' 2 i = (lt_r (R 7 1) v R m).1 i) → (∀ p, v 0 - (m : Int) ≤ p → p < v 0 → PR' 5 p = (lt_r (R 7 1) v R m).2.1 p) → im_wp ro (ab_Ev ro ab_codes d) 3 (some .boolean) ab_k_X3_findLent 36 T (fun r w => ∃ pv1 PR1, PRB PR1 ∧ (∀ j, j ≠ 1 → pv1 j = pv j) ∧ (∀ j, j ≠ 2 → j ≠ 5 → PR1 j = PR j) ∧ r = some (.inl (if lt_ok (R 7 1) v R (v 0).toNat = true then 1 else 0)) ∧ (lt_ok (R 7 1) v R (v 0).toNat = true → pv1 1 = (lt_r (R 7 1) v R (v 0).toNat).2.2 ∧ ∀ p, 0 ≤ p → p < v 0 → PR1 5 p = (lt_r (R 7 1) v R (v 0).toNat).2.1 p) ∧ w = PC 0 pv1 cv b s wd sv sR sg PR1 ++ LC 24 v R g) (38, [some (mr 0), some (mr 24), some (.inl (R 7 1)), some (.inl (v 0 - 1 - (m : Int))), x4, x5], [], PC 0 pv' cv b s wd sv sR sg PR' ++ LC 24 v R g) := by
    intro j
    induction j with
    | zero =>
      intro m hm hok pv' PR' x4 x5 hpv hp1 hpr hb' hS hD
      refine im_g 1 (y := (39, _, _, _)) rfl trivial ?_
      refine im_bT rfl rfl ⟨(by omega), trivial⟩ (by omega) ?_
      refine im_g 1 (y := (144, _, _, _)) rfl trivial ?_
      refine im_r rfl rfl ⟨(by decide), trivial⟩ rfl ?_
      obtain rfl : m = (v 0).toNat := by omega
      exact ⟨pv', PR', hb', hpv, hpr, congrArg (fun z => some (Sum.inl z)) (if_pos hok).symm, fun _ => ⟨hp1, fun p q1 q2 => hD p (by omega) q2⟩, rfl⟩
    | succ j ih =>
      intro m hm hok pv' PR' x4 x5 hpv hp1 hpr hb' hS hD
      have hp : 0 ≤ v 0 - 1 - (m : Int) ∧ v 0 - 1 - (m : Int) < v 0 := by omega
      have hsp := lt_r_b (by_ := R 7 1) h m (by omega) (v 0 - 1 - (m : Int))
      have hsu := lt_s_b (by_ := R 7 1) h (by omega) m (by omega)
      have eS := hS (v 0 - 1 - (m : Int)) (by omega) (by omega)
      have hb0 := lk_bel h (v 0 - 1 - (m : Int))
      have hlw := lk_low h hp.1 hp.2
      have hr : (PR' 2 (v 0 - 1 - (m : Int))).tmod (R 7 1) = PR' 2 (v 0 - 1 - (m : Int)) % R 7 1 := Int.tmod_eq_emod_of_nonneg (by omega)
      have hrb : 0 ≤ PR' 2 (v 0 - 1 - (m : Int)) % R 7 1 ∧ PR' 2 (v 0 - 1 - (m : Int)) % R 7 1 < R 7 1 := ⟨Int.emod_nonneg _ (by omega), Int.emod_lt_of_pos _ (by omega)⟩
      have ebd : lt_bd (R 7 1) (v 0 - 1 - (m : Int)) v R (lt_r (R 7 1) v R m) = (!decide (0 ≤ R 0 (v 0 - 1 - (m : Int)) ∧ R 0 (v 0 - 1 - (m : Int)) < v 0 ∧ R 0 (v 0 - 1 - (m : Int)) < 10) && !decide (PR' 2 (v 0 - 1 - (m : Int)) % R 7 1 = 0)) := by unfold lt_bd; rw [eS]
      have eok : lt_ok (R 7 1) v R (m + 1) = (lt_ok (R 7 1) v R m && !lt_bd (R 7 1) (v 0 - 1 - (m : Int)) v R (lt_r (R 7 1) v R m)) := rfl
      rw [hok, ebd] at eok
      have e1 : (lt_r (R 7 1) v R (m + 1)).2.1 = im_up (lt_r (R 7 1) v R m).2.1 (v 0 - 1 - (m : Int)) (lt_dn (R 7 1) (PR' 2 (v 0 - 1 - (m : Int)) % R 7 1)) := by rw [eS]; rfl
      have e2 : (lt_r (R 7 1) v R (m + 1)).2.2 = (lt_r (R 7 1) v R m).2.2 + max (lt_dn (R 7 1) (PR' 2 (v 0 - 1 - (m : Int)) % R 7 1)) (-lt_dn (R 7 1) (PR' 2 (v 0 - 1 - (m : Int)) % R 7 1)) := by rw [eS]; rfl
      have edn : lt_dn (R 7 1) (PR' 2 (v 0 - 1 - (m : Int)) % R 7 1) = if PR' 2 (v 0 - 1 - (m : Int)) % R 7 1 ≤ R 7 1 - PR' 2 (v 0 - 1 - (m : Int)) % R 7 1 then PR' 2 (v 0 - 1 - (m : Int)) % R 7 1 else PR' 2 (v 0 - 1 - (m : Int)) % R 7 1 - R 7 1 := rfl
      have hdb := lt_dn_b (by_ := R 7 1) (r := PR' 2 (v 0 - 1 - (m : Int)) % R 7 1) (by omega) hrb
      refine im_g 1 (y := (39, _, _, _)) rfl trivial ?_
      refine im_bF rfl rfl ⟨(by omega), trivial⟩ (by omega) ?_
      refine im_g 7 (y := (52, _, _, _)) rfl ⟨(by omega), (by omega), (by omega), (by omega), trivial⟩ ?_
      rw [hr]
      refine im_g 7 (y := (63, _, _, _)) rfl ⟨(by omega), trivial⟩ ?_
      refine im_call [24,25,26,27,28,29,30,31,32,33,34,35] rfl rfl (c_has (v := v) (R := R) (g := g) (p := R 0 (v 0 - 1 - (m : Int))) (by omega) hT (by omega) hpar) rfl rfl rfl (by decide) rfl (by decide) hT (fun v1 w1 hq => ?_)
      obtain ⟨rfl, rfl⟩ := hq
      refine ⟨_, _, PC 0 pv' cv b s wd sv sR sg PR' ++ LC 24 v R g, rfl, rfl, rfl, ?_⟩
      refine im_b rfl rfl ⟨(by omega), trivial⟩ (fun j1 => ?_) (fun j1 => ?_)
      · have hn9 : ¬ (0 ≤ R 0 (v 0 - 1 - (m : Int)) ∧ R 0 (v 0 - 1 - (m : Int)) < v 0 ∧ R 0 (v 0 - 1 - (m : Int)) < 10) := by
          intro hh
          rw [if_pos hh] at j1; exact absurd j1 (by decide)
        clear j1
        refine im_g 1 (y := (90, _, _, _)) rfl trivial ?_
        refine im_b rfl rfl ⟨(by omega), trivial⟩ (fun j2 => ?_) (fun j2 => ?_)
        · have hok1 : lt_ok (R 7 1) v R (m + 1) = true := by
            rw [eok, decide_eq_true (show PR' 2 (v 0 - 1 - (m : Int)) % R 7 1 = 0 by omega), Bool.not_true, Bool.and_false]
            rfl
          refine im_g 7 (y := (106, _, _, _)) rfl trivial ?_
          refine im_b rfl rfl ⟨(by omega), (by omega), trivial⟩ (fun j3 => ?_) (fun j3 => ?_)
          · refine im_g 16 (y := (38, _, _, _)) rfl ⟨(by omega), (by omega), (by first | omega | (rw [im_up_self]; omega)), trivial⟩ ?_
            have ed : lt_dn (R 7 1) (PR' 2 (v 0 - 1 - (m : Int)) % R 7 1) = PR' 2 (v 0 - 1 - (m : Int)) % R 7 1 - R 7 1 := if_neg (by omega)
            rw [ed] at e1 e2 hdb
            have t := ih (m + 1) (by omega) hok1 (pl_U pv' 1 (pv' 1 + max (im_up (PR' 5) (v 0 - 1 - (m : Int)) (PR' 2 (v 0 - 1 - (m : Int)) % R 7 1 - R 7 1) (v 0 - 1 - (m : Int))) (-im_up (PR' 5) (v 0 - 1 - (m : Int)) (PR' 2 (v 0 - 1 - (m : Int)) % R 7 1 - R 7 1) (v 0 - 1 - (m : Int))))) (pl_U PR' 5 (im_up (PR' 5) (v 0 - 1 - (m : Int)) (PR' 2 (v 0 - 1 - (m : Int)) % R 7 1 - R 7 1))) (some (.inl (PR' 2 (v 0 - 1 - (m : Int)) % R 7 1))) (some (.inl (R 0 (v 0 - 1 - (m : Int))))) (fun j hj => (if_neg hj).trans (hpv j hj)) ?hp123 ?hpr123 ?hb123 ?hS123 ?hD123
            · rw [show v 0 - 1 - ((m + 1 : Nat) : Int) = v 0 - 1 - (m : Int) + -1 by omega] at t
              exact t
            · show pv' 1 + max (im_up (PR' 5) (v 0 - 1 - (m : Int)) (PR' 2 (v 0 - 1 - (m : Int)) % R 7 1 - R 7 1) (v 0 - 1 - (m : Int))) (-im_up (PR' 5) (v 0 - 1 - (m : Int)) (PR' 2 (v 0 - 1 - (m : Int)) % R 7 1 - R 7 1) (v 0 - 1 - (m : Int))) = _
              rw [im_up_self, e2, hp1]
            · intro j h2 h5
              unfold pl_U
              rw [if_neg h5]
              exact hpr j h2 h5
            · exact PRB_U hb' (im_up_b (fun i => hb' 5 i (by decide)) (by omega))
            · intro i q1 q2
              rw [show (lt_r (R 7 1) v R (m + 1)).1 = (lt_r (R 7 1) v R m).1 from lt_1_not (by omega)]
              exact hS i q1 q2
            · intro p q1 q2
              show (im_up (PR' 5) (v 0 - 1 - (m : Int)) (PR' 2 (v 0 - 1 - (m : Int)) % R 7 1 - R 7 1)) p = _
              rw [e1]
              unfold im_up
              split
              · rfl
              · exact hD p (by omega) q2
          · refine im_g 15 (y := (38, _, _, _)) rfl ⟨(by omega), (by omega), (by first | omega | (rw [im_up_self]; omega)), trivial⟩ ?_
            have ed : lt_dn (R 7 1) (PR' 2 (v 0 - 1 - (m : Int)) % R 7 1) = PR' 2 (v 0 - 1 - (m : Int)) % R 7 1 := if_pos (by omega)
            rw [ed] at e1 e2 hdb
            have t := ih (m + 1) (by omega) hok1 (pl_U pv' 1 (pv' 1 + max (im_up (PR' 5) (v 0 - 1 - (m : Int)) (PR' 2 (v 0 - 1 - (m : Int)) % R 7 1) (v 0 - 1 - (m : Int))) (-im_up (PR' 5) (v 0 - 1 - (m : Int)) (PR' 2 (v 0 - 1 - (m : Int)) % R 7 1) (v 0 - 1 - (m : Int))))) (pl_U PR' 5 (im_up (PR' 5) (v 0 - 1 - (m : Int)) (PR' 2 (v 0 - 1 - (m : Int)) % R 7 1))) (some (.inl (PR' 2 (v 0 - 1 - (m : Int)) % R 7 1))) (some (.inl (R 0 (v 0 - 1 - (m : Int))))) (fun j hj => (if_neg hj).trans (hpv j hj)) ?hp146 ?hpr146 ?hb146 ?hS146 ?hD146
            · rw [show v 0 - 1 - ((m + 1 : Nat) : Int) = v 0 - 1 - (m : Int) + -1 by omega] at t
              exact t
            · show pv' 1 + max (im_up (PR' 5) (v 0 - 1 - (m : Int)) (PR' 2 (v 0 - 1 - (m : Int)) % R 7 1) (v 0 - 1 - (m : Int))) (-im_up (PR' 5) (v 0 - 1 - (m : Int)) (PR' 2 (v 0 - 1 - (m : Int)) % R 7 1) (v 0 - 1 - (m : Int))) = _
              rw [im_up_self, e2, hp1]
            · intro j h2 h5
              unfold pl_U
              rw [if_neg h5]
              exact hpr j h2 h5
            · exact PRB_U hb' (im_up_b (fun i => hb' 5 i (by decide)) (by omega))
            · intro i q1 q2
              rw [show (lt_r (R 7 1) v R (m + 1)).1 = (lt_r (R 7 1) v R m).1 from lt_1_not (by omega)]
              exact hS i q1 q2
            · intro p q1 q2
              show (im_up (PR' 5) (v 0 - 1 - (m : Int)) (PR' 2 (v 0 - 1 - (m : Int)) % R 7 1)) p = _
              rw [e1]
              unfold im_up
              split
              · rfl
              · exact hD p (by omega) q2
        · refine im_g 1 (y := (94, _, _, _)) rfl trivial ?_
          refine im_r rfl rfl ⟨(by decide), trivial⟩ rfl ?_
          have hno : lt_ok (R 7 1) v R (m + 1) = false := by
            rw [eok, decide_eq_false (show ¬ (0 ≤ R 0 (v 0 - 1 - (m : Int)) ∧ R 0 (v 0 - 1 - (m : Int)) < v 0 ∧ R 0 (v 0 - 1 - (m : Int)) < 10) by omega), decide_eq_false (show ¬ PR' 2 (v 0 - 1 - (m : Int)) % R 7 1 = 0 by omega)]
            rfl
          have hno2 := lt_ok_no hno j
          rw [show m + 1 + j = (v 0).toNat by omega] at hno2
          exact ⟨pv', PR', hb', hpv, hpr, congrArg (fun z => some (Sum.inl z)) (if_neg (by rw [hno2]; decide)).symm, fun z => absurd z (by rw [hno2]; decide), rfl⟩
      · have hp9 : 0 ≤ R 0 (v 0 - 1 - (m : Int)) ∧ R 0 (v 0 - 1 - (m : Int)) < v 0 ∧ R 0 (v 0 - 1 - (m : Int)) < 10 := by
          by_cases hh : 0 ≤ R 0 (v 0 - 1 - (m : Int)) ∧ R 0 (v 0 - 1 - (m : Int)) < v 0 ∧ R 0 (v 0 - 1 - (m : Int)) < 10
          · exact hh
          · rw [if_neg hh] at j1; exact absurd rfl j1
        clear j1
        refine im_g 12 (y := (95, _, _, _)) rfl ⟨(by omega), (by omega), (by omega), trivial⟩ ?_
        have hs2 := lt_r_b (by_ := R 7 1) h m (by omega) (R 0 (v 0 - 1 - (m : Int)))
        have eS2 := hS (R 0 (v 0 - 1 - (m : Int))) (by omega) (by omega)
        have hne : ¬ R 0 (v 0 - 1 - (m : Int)) = v 0 - 1 - (m : Int) := by omega
        have hsum := lt_r_b (by_ := R 7 1) h (m + 1) (by omega) (R 0 (v 0 - 1 - (m : Int)))
        rw [show (lt_r (R 7 1) v R (m + 1)).1 = im_up (lt_r (R 7 1) v R m).1 (R 0 (v 0 - 1 - (m : Int))) ((lt_r (R 7 1) v R m).1 (R 0 (v 0 - 1 - (m : Int))) + (lt_r (R 7 1) v R m).1 (v 0 - 1 - (m : Int))) from lt_1_hit (by omega), im_up_self, ← eS, ← eS2] at hsum
        have hok1 : lt_ok (R 7 1) v R (m + 1) = true := by
          rw [eok, decide_eq_true (show 0 ≤ R 0 (v 0 - 1 - (m : Int)) ∧ R 0 (v 0 - 1 - (m : Int)) < v 0 ∧ R 0 (v 0 - 1 - (m : Int)) < 10 by omega)]
          rfl
        refine im_g 7 (y := (106, _, _, _)) rfl trivial ?_
        refine im_b rfl rfl ⟨(by omega), (by omega), trivial⟩ (fun j4 => ?_) (fun j4 => ?_)
        · refine im_g 16 (y := (38, _, _, _)) rfl ⟨(by omega), (by omega), (by first | omega | (rw [im_up_self]; omega)), trivial⟩ ?_
          have ed : lt_dn (R 7 1) (PR' 2 (v 0 - 1 - (m : Int)) % R 7 1) = PR' 2 (v 0 - 1 - (m : Int)) % R 7 1 - R 7 1 := if_neg (by omega)
          rw [ed] at e1 e2 hdb
          have t := ih (m + 1) (by omega) hok1 (pl_U pv' 1 (pv' 1 + max (im_up (PR' 5) (v 0 - 1 - (m : Int)) (PR' 2 (v 0 - 1 - (m : Int)) % R 7 1 - R 7 1) (v 0 - 1 - (m : Int))) (-im_up (PR' 5) (v 0 - 1 - (m : Int)) (PR' 2 (v 0 - 1 - (m : Int)) % R 7 1 - R 7 1) (v 0 - 1 - (m : Int))))) (pl_U (pl_U PR' 2 (im_up (PR' 2) (R 0 (v 0 - 1 - (m : Int))) (PR' 2 (R 0 (v 0 - 1 - (m : Int))) + PR' 2 (v 0 - 1 - (m : Int))))) 5 (im_up (PR' 5) (v 0 - 1 - (m : Int)) (PR' 2 (v 0 - 1 - (m : Int)) % R 7 1 - R 7 1))) (some (.inl (PR' 2 (v 0 - 1 - (m : Int)) % R 7 1))) (some (.inl (R 0 (v 0 - 1 - (m : Int))))) (fun j hj => (if_neg hj).trans (hpv j hj)) ?hp193 ?hpr193 ?hb193 ?hS193 ?hD193
          · rw [show v 0 - 1 - ((m + 1 : Nat) : Int) = v 0 - 1 - (m : Int) + -1 by omega] at t
            exact t
          · show pv' 1 + max (im_up (PR' 5) (v 0 - 1 - (m : Int)) (PR' 2 (v 0 - 1 - (m : Int)) % R 7 1 - R 7 1) (v 0 - 1 - (m : Int))) (-im_up (PR' 5) (v 0 - 1 - (m : Int)) (PR' 2 (v 0 - 1 - (m : Int)) % R 7 1 - R 7 1) (v 0 - 1 - (m : Int))) = _
            rw [im_up_self, e2, hp1]
          · intro j h2 h5
            unfold pl_U
            rw [if_neg h5, if_neg h2]
            exact hpr j h2 h5
          · exact PRB_U (PRB_U hb' (im_up_b (fun i => hb' 2 i (by decide)) (by omega))) (im_up_b (fun i => hb' 5 i (by decide)) (by omega))
          · intro i q1 q2
            show (im_up (PR' 2) (R 0 (v 0 - 1 - (m : Int))) (PR' 2 (R 0 (v 0 - 1 - (m : Int))) + PR' 2 (v 0 - 1 - (m : Int)))) i = _
            rw [show (lt_r (R 7 1) v R (m + 1)).1 = im_up (lt_r (R 7 1) v R m).1 (R 0 (v 0 - 1 - (m : Int))) ((lt_r (R 7 1) v R m).1 (R 0 (v 0 - 1 - (m : Int))) + (lt_r (R 7 1) v R m).1 (v 0 - 1 - (m : Int))) from lt_1_hit (by omega), ← eS, ← hS (R 0 (v 0 - 1 - (m : Int))) (by omega) (by omega)]
            unfold im_up
            split
            · rfl
            · exact hS i q1 q2
          · intro p q1 q2
            show (im_up (PR' 5) (v 0 - 1 - (m : Int)) (PR' 2 (v 0 - 1 - (m : Int)) % R 7 1 - R 7 1)) p = _
            rw [e1]
            unfold im_up
            split
            · rfl
            · exact hD p (by omega) q2
        · refine im_g 15 (y := (38, _, _, _)) rfl ⟨(by omega), (by omega), (by first | omega | (rw [im_up_self]; omega)), trivial⟩ ?_
          have ed : lt_dn (R 7 1) (PR' 2 (v 0 - 1 - (m : Int)) % R 7 1) = PR' 2 (v 0 - 1 - (m : Int)) % R 7 1 := if_pos (by omega)
          rw [ed] at e1 e2 hdb
          have t := ih (m + 1) (by omega) hok1 (pl_U pv' 1 (pv' 1 + max (im_up (PR' 5) (v 0 - 1 - (m : Int)) (PR' 2 (v 0 - 1 - (m : Int)) % R 7 1) (v 0 - 1 - (m : Int))) (-im_up (PR' 5) (v 0 - 1 - (m : Int)) (PR' 2 (v 0 - 1 - (m : Int)) % R 7 1) (v 0 - 1 - (m : Int))))) (pl_U (pl_U PR' 2 (im_up (PR' 2) (R 0 (v 0 - 1 - (m : Int))) (PR' 2 (R 0 (v 0 - 1 - (m : Int))) + PR' 2 (v 0 - 1 - (m : Int))))) 5 (im_up (PR' 5) (v 0 - 1 - (m : Int)) (PR' 2 (v 0 - 1 - (m : Int)) % R 7 1))) (some (.inl (PR' 2 (v 0 - 1 - (m : Int)) % R 7 1))) (some (.inl (R 0 (v 0 - 1 - (m : Int))))) (fun j hj => (if_neg hj).trans (hpv j hj)) ?hp1120 ?hpr1120 ?hb1120 ?hS1120 ?hD1120
          · rw [show v 0 - 1 - ((m + 1 : Nat) : Int) = v 0 - 1 - (m : Int) + -1 by omega] at t
            exact t
          · show pv' 1 + max (im_up (PR' 5) (v 0 - 1 - (m : Int)) (PR' 2 (v 0 - 1 - (m : Int)) % R 7 1) (v 0 - 1 - (m : Int))) (-im_up (PR' 5) (v 0 - 1 - (m : Int)) (PR' 2 (v 0 - 1 - (m : Int)) % R 7 1) (v 0 - 1 - (m : Int))) = _
            rw [im_up_self, e2, hp1]
          · intro j h2 h5
            unfold pl_U
            rw [if_neg h5, if_neg h2]
            exact hpr j h2 h5
          · exact PRB_U (PRB_U hb' (im_up_b (fun i => hb' 2 i (by decide)) (by omega))) (im_up_b (fun i => hb' 5 i (by decide)) (by omega))
          · intro i q1 q2
            show (im_up (PR' 2) (R 0 (v 0 - 1 - (m : Int))) (PR' 2 (R 0 (v 0 - 1 - (m : Int))) + PR' 2 (v 0 - 1 - (m : Int)))) i = _
            rw [show (lt_r (R 7 1) v R (m + 1)).1 = im_up (lt_r (R 7 1) v R m).1 (R 0 (v 0 - 1 - (m : Int))) ((lt_r (R 7 1) v R m).1 (R 0 (v 0 - 1 - (m : Int))) + (lt_r (R 7 1) v R m).1 (v 0 - 1 - (m : Int))) from lt_1_hit (by omega), ← eS, ← hS (R 0 (v 0 - 1 - (m : Int))) (by omega) (by omega)]
            unfold im_up
            split
            · rfl
            · exact hS i q1 q2
          · intro p q1 q2
            show (im_up (PR' 5) (v 0 - 1 - (m : Int)) (PR' 2 (v 0 - 1 - (m : Int)) % R 7 1)) p = _
            rw [e1]
            unfold im_up
            split
            · rfl
            · exact hD p (by omega) q2
  refine im_ct_of (own := 3) (ret := (some .boolean)) (code := ab_k_X3_findLent) (nL := 6) (L0 := [some (mr 0), some (mr 24), none, none, none, none]) (n := 36) rfl rfl rfl rfl rfl rfl rfl rfl rfl ?_
  refine im_g 23 (y := (38, _, _, _)) rfl ⟨(by omega), (by omega), (by omega), (by omega), (by omega), (by omega), (by omega), (by omega), trivial⟩ ?_
  refine im_eqs (y := (38, [some (mr 0), some (mr 24), some (.inl (max 2 (R 7 1))), some (.inl (v 0 - 1)), none, none], [], PC 0 (pl_U pv 1 0) cv b s wd sv sR sg (pl_U PR 2 (im_cpy (R 2) (PR 2) 0 0 10)) ++ LC 24 v R g)) rfl ?_
  rw [show max 2 (R 7 1) = R 7 1 by omega]
  have t := key (v 0).toNat 0 (by omega) rfl (pl_U pv 1 0) (pl_U PR 2 (im_cpy (R 2) (PR 2) 0 0 10)) none none (fun j hj => if_neg hj) rfl (fun j h2 h5 => if_neg h2) (PRB_U hpb (fun i => ?_)) (fun i q1 q2 => by show im_cpy (R 2) (PR 2) 0 0 10 i = _; rw [im_cpy_at, if_pos ⟨q1, q2⟩]; rfl) (fun p q1 q2 => absurd q1 (by omega))
  · rw [show v 0 - 1 - ((0 : Nat) : Int) = v 0 - 1 by omega] at t
    exact t
  · have t1 := lk_cnt h i
    have t2 := hpb 2 i (by decide)
    rw [im_cpy_at]
    split <;> omega
end Fl
