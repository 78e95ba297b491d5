/-! the reference: the least lending -/
section Rl
variable {ro : ab_R} {T : List im_T} {d : Nat} {v : Nat → Int} {R : Nat → Int → Int} {lv : Nat → Int} {L : Nat → Int → Int}
set_option maxHeartbeats 8000000 in
theorem m_laysAbove (hd : 1 ≤ d) (hT : T.length < 1000) (hr : KR (R 2) lv L) (hlo : LOK lv L) : im_ct ro T d 212 [mr 0] (MW v R) (fun r w => r = none ∧ ∃ R1, w = MW v R1 ∧ (∀ j, j ≠ 18 → R1 j = R j) ∧ ∀ p, 0 ≤ p → p < lv 0 → R1 18 p = lt_A lv L p) := by
  obtain ⟨d, rfl⟩ : ∃ e, d = e + 1 := ⟨d - 1, by omega⟩
  have hpar := lk_par hlo
  have e110 : R 2 110 = lv 0 := hr.1.1
  refine im_ct_of (own := 9) (ret := none) (code := ab_k_X9_laysAbove) (nL := 3) (L0 := [some (mr 0), none, none]) (n := 24) rfl rfl rfl rfl rfl rfl rfl rfl rfl ?_
  refine im_g 7 (y := (10, _, _, _)) rfl ⟨(by omega), trivial⟩ ?_
  have key : ∀ (j m : Nat), m + j = (lv 0).toNat → ∀ (Rx : Nat → Int → Int) (x2 : Option im_V), (∀ j, j ≠ 18 → Rx j = R j) → (∀ p, lv 0 - (m : Int) ≤ p → p < lv 0 → Rx 18 p = lt_A lv L p) → im_wp ro (ab_Ev ro ab_codes d) 9 none ab_k_X9_laysAbove 24 T (fun r w => r = none ∧ ∃ R1, w = MW v R1 ∧ (∀ j, j ≠ 18 → R1 j = R j) ∧ ∀ p, 0 ≤ p → p < lv 0 → R1 18 p = lt_A lv L p) (10, [some (mr 0), some (.inl (lv 0 - 1 - (m : Int))), x2], [], MW v Rx) := by
    intro j
    induction j with
    | zero =>
      intro m hm Rx x2 hx hf
      refine im_g 1 (y := (11, _, _, _)) rfl trivial ?_
      refine im_bT rfl rfl ⟨(by omega), trivial⟩ (by omega) ?_
      refine im_r rfl rfl trivial rfl ?_
      exact ⟨rfl, Rx, rfl, hx, fun p q1 q2 => hf p (by omega) q2⟩
    | succ j ih =>
      intro m hm Rx x2 hx hf
      have hp : 0 ≤ lv 0 - 1 - (m : Int) ∧ lv 0 - 1 - (m : Int) < lv 0 := by omega
      have hf1 : ∀ x, lv 0 - 1 - (m : Int) < x → x < lv 0 → Rx 18 x = lt_A lv L x := fun x q1 q2 => hf x (by omega) q2
      have em : lv 0 - 1 - ((m + 1 : Nat) : Int) = lv 0 - 1 - (m : Int) + -1 := by omega
      have em2 : lv 0 - ((m + 1 : Nat) : Int) = lv 0 - 1 - (m : Int) := by omega
      have ihm := ih (m + 1) (by omega)
      rw [em, em2] at ihm
      clear em em2 hf ih
      generalize lv 0 - 1 - (m : Int) = p at hp hf1 ihm ⊢
      have e0 : Rx 2 (0 + p) = L 2 p := by rw [hx 2 (by decide)]; exact (hr.2.2.1 p hp.1 (by omega)).2.2.1
      have inner : ∀ (t k : Nat), p + 1 + (k : Int) + t = lv 0 → ∀ (Rx : Nat → Int → Int), (∀ j, j ≠ 18 → Rx j = R j) → Rx 18 p = L 2 p + su (lt_f lv L p) (p + 1) k → (∀ x, p < x → x < lv 0 → Rx 18 x = lt_A lv L x) → im_wp ro (ab_Ev ro ab_codes d) 9 none ab_k_X9_laysAbove 24 T (fun r w => r = none ∧ ∃ R1, w = MW v R1 ∧ (∀ j, j ≠ 18 → R1 j = R j) ∧ ∀ p, 0 ≤ p → p < lv 0 → R1 18 p = lt_A lv L p) (32, [some (mr 0), some (.inl p), some (.inl (p + 1 + (k : Int)))], [], MW v Rx) := by
        intro t
        induction t with
        | zero =>
          intro k hk Rx hx e1 hf
          have e110x : Rx 2 110 = lv 0 := by rw [hx 2 (by decide)]; exact e110
          have ek : k = (lv 0 - 1 - p).toNat := by omega
          have ep : Rx 18 p = lt_A lv L p := by rw [lt_A_up hlo hp.1 hp.2, e1, ek]
          refine im_g 5 (y := (40, _, _, _)) rfl ⟨(by omega), trivial⟩ ?_
          refine im_bT rfl rfl ⟨(by omega), (by omega), trivial⟩ (by omega) ?_
          refine im_g 2 (y := (10, _, _, _)) rfl trivial ?_
          exact ihm Rx _ hx (fun x q1 q2 => by by_cases e : x = p; rw [e]; exact ep; exact hf x (by omega) q2)
        | succ t iht =>
          intro k hk Rx hx e1 hf
          have e110x : Rx 2 110 = lv 0 := by rw [hx 2 (by decide)]; exact e110
          have eb : Rx 2 (71 + (p + 1 + (k : Int))) = L 0 (p + 1 + (k : Int)) := by rw [hx 2 (by decide)]; exact (hr.2.2.1 (p + 1 + (k : Int)) (by omega) (by omega)).1
          have hbb := lk_bel hlo (p + 1 + (k : Int))
          have es : su (lt_f lv L p) (p + 1) (k + 1) = su (lt_f lv L p) (p + 1) k + (if L 0 (p + 1 + (k : Int)) = p then lt_A lv L (p + 1 + (k : Int)) else 0) := rfl
          have efq := hf (p + 1 + (k : Int)) (by omega) (by omega)
          refine im_g 5 (y := (40, _, _, _)) rfl ⟨(by omega), trivial⟩ ?_
          refine im_bF rfl rfl ⟨(by omega), (by omega), trivial⟩ (by omega) ?_
          refine im_g 12 (y := (60, _, _, _)) rfl ⟨(by omega), (by omega), trivial⟩ ?_
          refine im_b rfl rfl ⟨(by omega), (by omega), trivial⟩ (fun br1 => ?_) (fun br1 => ?_)
          · refine im_g 5 (y := (32, _, _, _)) rfl ⟨(by omega), trivial⟩ ?_
            rw [if_neg (by omega)] at es
            have t2 := iht (k + 1) (by omega) (pl_U Rx 18 (im_up (Rx 18) p (Rx 18 p + 0))) (fun j hj => (if_neg hj).trans (hx j hj)) (by show im_up (Rx 18) p _ p = _; rw [im_up_self, es, e1]; omega) (fun x q1 q2 => (im_up_ne _ _ (by omega)).trans (hf x q1 q2))
            rw [show p + 1 + ((k + 1 : Nat) : Int) = p + 1 + (k : Int) + 1 by omega] at t2
            exact t2
          · refine im_g 9 (y := (32, _, _, _)) rfl ⟨(by omega), (by omega), trivial⟩ ?_
            rw [if_pos (by omega)] at es
            have t2 := iht (k + 1) (by omega) (pl_U Rx 18 (im_up (Rx 18) p (Rx 18 p + Rx 18 (p + 1 + (k : Int))))) (fun j hj => (if_neg hj).trans (hx j hj)) (by show im_up (Rx 18) p _ p = _; rw [im_up_self, es, e1, efq]; omega) (fun x q1 q2 => (im_up_ne _ _ (by omega)).trans (hf x q1 q2))
            rw [show p + 1 + ((k + 1 : Nat) : Int) = p + 1 + (k : Int) + 1 by omega] at t2
            exact t2
      refine im_g 1 (y := (11, _, _, _)) rfl trivial ?_
      refine im_bF rfl rfl ⟨(by omega), trivial⟩ (by omega) ?_
      refine im_g 14 (y := (32, _, _, _)) rfl ⟨(by omega), (by omega), trivial⟩ ?_
      have t2 := inner (lv 0 - 1 - p).toNat 0 (by omega) (pl_U Rx 18 (im_up (Rx 18) p (Rx 2 (0 + p)))) (fun j hj => (if_neg hj).trans (hx j hj)) (by show im_up (Rx 18) p _ p = _; rw [im_up_self, e0]; show L 2 p = L 2 p + 0; omega) (fun x q1 q2 => (im_up_ne _ _ (by omega)).trans (hf1 x q1 q2))
      rw [show p + 1 + ((0 : Nat) : Int) = p + 1 by omega] at t2
      exact t2
  have t := key (lv 0).toNat 0 (by omega) R none (fun _ _ => rfl) (fun p q1 q2 => absurd q1 (by omega))
  rw [show lv 0 - 1 - ((0 : Nat) : Int) = R 2 110 - 1 by omega] at t
  exact t
set_option maxHeartbeats 8000000 in
theorem m_goesDown (hd : 1 ≤ d) (hT : T.length < 1000) (hr : KR (R 2) lv L) (hlo : LOK lv L) {p : Int} (hp : 0 ≤ p ∧ p < lv 0) (hf : R 18 p = lt_A lv L p) : im_ct ro T d 213 [mr 0, .inl p] (MW v R) (fun r w => r = some (.inl (lt_g lv L p)) ∧ w = MW v R) := by
  obtain ⟨d, rfl⟩ : ∃ e, d = e + 1 := ⟨d - 1, by omega⟩
  have hpar := lk_par hlo
  have e110 : R 2 110 = lv 0 := hr.1.1
  have ht7 := lk_trm hlo
  have e107 : R 2 107 = L 7 1 := hr.2.1.2.1
  have hab : 0 ≤ lt_A lv L p ∧ lt_A lv L p ≤ 600000 := by have t := lt_r_b (by_ := L 7 1) hlo (lv 0).toNat (by omega) p; exact ⟨t.1, t.2.2⟩
  have hr2 : (lt_A lv L p).tmod (L 7 1) = lt_A lv L p % L 7 1 := Int.tmod_eq_emod_of_nonneg hab.1
  have hrb : 0 ≤ lt_A lv L p % L 7 1 ∧ lt_A lv L p % L 7 1 < L 7 1 := ⟨Int.emod_nonneg _ (by omega), Int.emod_lt_of_pos _ (by omega)⟩
  refine im_ct_of (own := 9) (ret := (some .int)) (code := ab_k_X9_goesDown) (nL := 3) (L0 := [some (mr 0), some (.inl p), none]) (n := 24) rfl rfl rfl rfl rfl rfl rfl rfl rfl ?_
  refine im_g 10 (y := (15, _, _, _)) rfl ⟨(by omega), (by omega), (by first | (rw [hf]; constructor <;> omega) | (rw [e107]; constructor <;> omega) | (rw [e107]; omega)), (by first | (rw [hf]; constructor <;> omega) | (rw [e107]; constructor <;> omega) | (rw [e107]; omega)), (by first | (rw [hf]; constructor <;> omega) | (rw [e107]; constructor <;> omega) | (rw [e107]; omega)), trivial⟩ ?_
  refine im_eqs (y := (15, [some (mr 0), some (.inl p), some (.inl (lt_A lv L p % L 7 1))], [], MW v R)) ?_ ?_
  · show ((15, [some (mr 0), some (.inl p), some (.inl ((R 18 p).tmod (R 2 107)))], [], MW v R) : im_S) = _
    rw [hf, e107, hr2]
  refine im_g 7 (y := (25, _, _, _)) rfl ⟨(by omega), trivial⟩ ?_
  refine im_b rfl rfl ⟨(by omega), (by omega), trivial⟩ (fun br1 => ?_) (fun br1 => ?_)
  · refine im_g 6 (y := (41, _, _, _)) rfl ⟨(by omega), trivial⟩ ?_
    refine im_r rfl rfl trivial rfl ?_
    have e : lt_g lv L p = lt_A lv L p % L 7 1 - L 7 1 := if_neg (by omega)
    rw [e, ← e107]
    exact ⟨rfl, rfl⟩
  · refine im_g 2 (y := (41, _, _, _)) rfl trivial ?_
    refine im_r rfl rfl trivial rfl ?_
    have e : lt_g lv L p = lt_A lv L p % L 7 1 := if_pos (by omega)
    rw [e]
    exact ⟨rfl, rfl⟩
set_option maxHeartbeats 8000000 in
theorem m_lent (hd : 3 ≤ d) (hT : T.length < 1000) (hr : KR (R 2) lv L) (hlo : LOK lv L) {wh : Int} (hw : im_ir wh) : im_ct ro T d 214 [mr 0, .inl wh] (MW v R) (fun r w => r = some (.inl (lt_ans lv L wh)) ∧ ∃ R1, w = MW v R1 ∧ ∀ j, j ≠ 18 → R1 j = R j) := by
  obtain ⟨d, rfl⟩ : ∃ e, d = e + 1 := ⟨d - 1, by omega⟩
  have hpar := lk_par hlo
  have e110 : R 2 110 = lv 0 := hr.1.1
  refine im_ct_of (own := 9) (ret := (some .int)) (code := ab_k_X9_lent) (nL := 4) (L0 := [some (mr 0), some (.inl wh), none, none]) (n := 24) rfl rfl rfl rfl rfl rfl rfl rfl rfl ?_
  refine im_g 6 (y := (9, _, _, _)) rfl ⟨(by omega), trivial⟩ ?_
  refine im_call [] rfl rfl (m_lies (x := wh) (a := 0) (b := R 2 110) (by omega) hT (by omega) (by omega) (by omega)) rfl rfl rfl (by decide) rfl (by decide) hT (fun v1 w1 hq => ?_)
  obtain ⟨rfl, rfl⟩ := hq
  refine ⟨_, _, MW v R, rfl, rfl, rfl, ?_⟩
  refine im_b rfl rfl ⟨(by omega), trivial⟩ (fun br1 => ?_) (fun br1 => ?_)
  · have c12 : 0 ≤ wh ∧ wh ≤ R 2 110 := by
      by_cases hh : 0 ≤ wh ∧ wh ≤ R 2 110
      · exact hh
      · rw [if_neg hh] at br1; exact absurd rfl br1
    clear br1
    refine im_g 1 (y := (20, _, _, _)) rfl trivial ?_
    refine im_cM rfl rfl (m_laysAbove (by omega) hT hr hlo) rfl hT (fun v1 w1 hq => ?_)
    obtain ⟨rfl, R1, rfl, hx, hf⟩ := hq
    refine ⟨v, R1, rfl, rfl, ?_⟩
    have hr1 : KR (R1 2) lv L := by rw [hx 2 (by decide)]; exact hr
    have e110x : R1 2 110 = lv 0 := hr1.1.1
    have e107x : R1 2 107 = L 7 1 := hr1.2.1.2.1
    refine im_g 4 (y := (27, _, _, _)) rfl trivial ?_
    have key : ∀ (j k : Nat), (k : Int) + j = lv 0 → lt_yes lv L k = true → im_wp ro (ab_Ev ro ab_codes d) 9 (some .int) ab_k_X9_lent 24 T (fun r w => r = some (.inl (lt_ans lv L wh)) ∧ ∃ R1, w = MW v R1 ∧ ∀ j, j ≠ 18 → R1 j = R j) (27, [some (mr 0), some (.inl wh), some (.inl (su (lt_h lv L) 0 k)), some (.inl (k : Int))], [], MW v R1) := by
      intro j
      induction j with
      | zero =>
        intro k hk hy
        obtain rfl : k = (lv 0).toNat := by omega
        refine im_g 5 (y := (35, _, _, _)) rfl ⟨(by omega), trivial⟩ ?_
        refine im_bT rfl rfl ⟨(by omega), (by omega), trivial⟩ (by omega) ?_
        refine im_g 1 (y := (90, _, _, _)) rfl trivial ?_
        refine im_b rfl rfl ⟨(by omega), trivial⟩ (fun br1 => ?_) (fun br1 => ?_)
        · refine im_g 4 (y := (101, _, _, _)) rfl trivial ?_
          refine im_cM rfl rfl (m_goesDown (R := R1) (p := wh - 1) (by omega) hT hr1 hlo (by omega) (hf (wh - 1) (by omega) (by omega))) rfl hT (fun v1 w1 hq => ?_)
          obtain ⟨rfl, rfl⟩ := hq
          refine ⟨v, R1, rfl, rfl, ?_⟩
          refine im_r rfl rfl trivial rfl ?_
          have e : lt_ans lv L wh = lt_g lv L (wh - 1) := by
            unfold lt_ans
            rw [if_neg (by rw [hy]; intro z; rcases z with z | z | z; omega; omega; exact absurd z (by decide)), if_neg (by omega)]
          rw [e]
          exact ⟨rfl, R1, rfl, hx⟩
        · refine im_g 2 (y := (104, _, _, _)) rfl trivial ?_
          refine im_r rfl rfl trivial rfl ?_
          have e : lt_ans lv L wh = su (lt_h lv L) 0 (lv 0).toNat := by
            unfold lt_ans
            rw [if_neg (by rw [hy]; intro z; rcases z with z | z | z; omega; omega; exact absurd z (by decide)), if_pos (by omega)]
          rw [e]
          exact ⟨rfl, R1, rfl, hx⟩
      | succ j ih =>
        intro k hk hy
        have hb := lk_bel hlo (k : Int)
        have e71 : R1 2 (71 + (k : Int)) = L 0 (k : Int) := (hr1.2.2.1 (k : Int) (by omega) (by omega)).1
        have efk := hf (k : Int) (by omega) (by omega)
        have ht7 := lk_trm hlo
        have hab : 0 ≤ lt_A lv L (k : Int) ∧ lt_A lv L (k : Int) ≤ 600000 := by have t := lt_r_b (by_ := L 7 1) hlo (lv 0).toNat (by omega) (k : Int); exact ⟨t.1, t.2.2⟩
        have hr2 : (lt_A lv L (k : Int)).tmod (L 7 1) = lt_A lv L (k : Int) % L 7 1 := Int.tmod_eq_emod_of_nonneg hab.1
        have hrb : 0 ≤ lt_A lv L (k : Int) % L 7 1 ∧ lt_A lv L (k : Int) % L 7 1 < L 7 1 := ⟨Int.emod_nonneg _ (by omega), Int.emod_lt_of_pos _ (by omega)⟩
        have eyk : lt_yes lv L (k + 1) = (lt_yes lv L k && lt_no lv L (k : Int)) := rfl
        rw [hy, Bool.true_and] at eyk
        have eno : lt_no lv L (k : Int) = !(decide (L 0 (k : Int) = -1) && !decide (lt_A lv L (k : Int) % L 7 1 = 0)) := rfl
        rw [eno] at eyk
        have hgb := lt_dn_b (by_ := L 7 1) (r := lt_A lv L (k : Int) % L 7 1) (by omega) hrb
        have egk : lt_g lv L (k : Int) = lt_dn (L 7 1) (lt_A lv L (k : Int) % L 7 1) := rfl
        refine im_g 5 (y := (35, _, _, _)) rfl ⟨(by omega), trivial⟩ ?_
        refine im_bF rfl rfl ⟨(by omega), (by omega), trivial⟩ (by omega) ?_
        refine im_g 7 (y := (48, _, _, _)) rfl ⟨(by omega), trivial⟩ ?_
        refine im_b rfl rfl ⟨(by omega), (by omega), trivial⟩ (fun br1 => ?_) (fun br1 => ?_)
        · refine im_g 3 (y := (75, _, _, _)) rfl trivial ?_
          refine im_cM rfl rfl (m_goesDown (R := R1) (p := (k : Int)) (by omega) hT hr1 hlo (by omega) efk) rfl hT (fun v1 w1 hq => ?_)
          obtain ⟨rfl, rfl⟩ := hq
          refine ⟨v, R1, rfl, rfl, ?_⟩
          refine im_call [] rfl rfl (m_sizeOf (a := lt_g lv L (k : Int)) (by omega) hT (by rw [egk]; omega)) rfl rfl rfl (by decide) rfl (by decide) hT (fun v1 w1 hq => ?_)
          obtain ⟨rfl, rfl⟩ := hq
          refine ⟨_, _, MW v R1, rfl, rfl, rfl, ?_⟩
          refine im_g 4 (y := (27, _, _, _)) rfl trivial ?_
          rw [decide_eq_false (show ¬ L 0 (k : Int) = -1 by omega), Bool.false_and, Bool.not_false] at eyk
          have t := ih (k + 1) (by omega) eyk
          have es : su (lt_h lv L) 0 (k + 1) = su (lt_h lv L) 0 k + max (lt_g lv L (k : Int)) (-lt_g lv L (k : Int)) := by
            show su (lt_h lv L) 0 k + lt_h lv L (0 + (k : Int)) = _
            rw [Int.zero_add]
            rfl
          rw [es] at t
          exact t
        · refine im_g 9 (y := (65, _, _, _)) rfl ⟨(by omega), (by omega), (by first | (rw [efk]; constructor <;> omega) | (rw [e107x]; constructor <;> omega) | (rw [e107x]; omega)), (by first | (rw [efk]; constructor <;> omega) | (rw [e107x]; constructor <;> omega) | (rw [e107x]; omega)), (by first | (rw [efk]; constructor <;> omega) | (rw [e107x]; constructor <;> omega) | (rw [e107x]; omega)), trivial⟩ ?_
          refine im_b rfl rfl ⟨(by show im_ir ((R1 18 (k : Int)).tmod (R1 2 107)); rw [efk, e107x, hr2]; constructor <;> omega), trivial⟩ (fun br2 => ?_) (fun br2 => ?_)
          · have hz0 : lt_A lv L (k : Int) % L 7 1 = 0 := by have t : ((R1 18 (k : Int)).tmod (R1 2 107)) = 0 := br2; rw [efk, e107x, hr2] at t; exact t
            refine im_g 3 (y := (75, _, _, _)) rfl trivial ?_
            refine im_cM rfl rfl (m_goesDown (R := R1) (p := (k : Int)) (by omega) hT hr1 hlo (by omega) efk) rfl hT (fun v1 w1 hq => ?_)
            obtain ⟨rfl, rfl⟩ := hq
            refine ⟨v, R1, rfl, rfl, ?_⟩
            refine im_call [] rfl rfl (m_sizeOf (a := lt_g lv L (k : Int)) (by omega) hT (by rw [egk]; omega)) rfl rfl rfl (by decide) rfl (by decide) hT (fun v1 w1 hq => ?_)
            obtain ⟨rfl, rfl⟩ := hq
            refine ⟨_, _, MW v R1, rfl, rfl, rfl, ?_⟩
            refine im_g 4 (y := (27, _, _, _)) rfl trivial ?_
            rw [decide_eq_true (show lt_A lv L (k : Int) % L 7 1 = 0 from hz0), Bool.not_true, Bool.and_false, Bool.not_false] at eyk
            have t := ih (k + 1) (by omega) eyk
            have es : su (lt_h lv L) 0 (k + 1) = su (lt_h lv L) 0 k + max (lt_g lv L (k : Int)) (-lt_g lv L (k : Int)) := by
              show su (lt_h lv L) 0 k + lt_h lv L (0 + (k : Int)) = _
              rw [Int.zero_add]
              rfl
            rw [es] at t
            exact t
          · have hz0 : ¬ lt_A lv L (k : Int) % L 7 1 = 0 := by have t : ¬ ((R1 18 (k : Int)).tmod (R1 2 107)) = 0 := br2; rw [efk, e107x, hr2] at t; exact t
            refine im_g 1 (y := (71, _, _, _)) rfl trivial ?_
            refine im_r rfl rfl trivial rfl ?_
            rw [decide_eq_true (show L 0 (k : Int) = -1 by omega), decide_eq_false (show ¬ lt_A lv L (k : Int) % L 7 1 = 0 from hz0)] at eyk
            have hno : lt_yes lv L (lv 0).toNat = false := by
              cases e : lt_yes lv L (lv 0).toNat with
              | false => rfl
              | true =>
                have t := (lt_yes_iff (v := lv) (R := L) (lv 0).toNat).mp e (k : Int) (by omega) (by omega)
                rw [eno, decide_eq_true (show L 0 (k : Int) = -1 by omega), decide_eq_false (show ¬ lt_A lv L (k : Int) % L 7 1 = 0 from hz0)] at t
                exact absurd t (by decide)
            have e : lt_ans lv L wh = -1000 := if_pos (Or.inr (Or.inr hno))
            rw [e]
            exact ⟨rfl, R1, rfl, hx⟩
    exact key (lv 0).toNat 0 (by omega) rfl
  · have c12 : ¬ (0 ≤ wh ∧ wh ≤ R 2 110) := by
      intro hh
      rw [if_pos hh] at br1
      exact br1 (by decide)
    clear br1
    refine im_g 1 (y := (18, _, _, _)) rfl trivial ?_
    refine im_r rfl rfl trivial rfl ?_
    have e : lt_ans lv L wh = -1000 := if_pos (by omega)
    rw [e]
    exact ⟨rfl, R, rfl, fun _ _ => rfl⟩
end Rl
