/-! the reference: once, heard, hidden -/
def QB (v : Nat → Int) (R : Nat → Int → Int) (w : im_W) : Prop := ∃ g ge b o c a5 a s ov, w = BW v R g ge b o c a5 a s ov
theorem QB_0 (v : Nat → Int) (R : Nat → Int → Int) : QB v R (MW v R) := ⟨v 22, v 23, v 24, v 25, v 31, R 5, R 12, R 16, R 17, rfl⟩
theorem fh_up (lw : Option im_T) (v : Nat → Int) (R : Nat → Int → Int) (k : Nat) : ∀ n : Nat, (fh lw v R k).1 ≤ (fh lw v R (k + n)).1 ∧ ∀ j : Int, 0 ≤ j → j < (fh lw v R k).1 → (fh lw v R (k + n)).2 j = (fh lw v R k).2 j
  | 0 => ⟨Nat.le_refl _, fun j _ _ => rfl⟩
  | n + 1 => by
    obtain ⟨h1, h2⟩ := fh_up lw v R k n
    have e : fh lw v R (k + (n + 1)) = if fh_is lw v R ((k + n : Nat) : Int) = true then ((fh lw v R (k + n)).1 + 1, im_up (fh lw v R (k + n)).2 ((fh lw v R (k + n)).1 : Int) ((k + n : Nat) : Int)) else fh lw v R (k + n) := rfl
    rw [e]
    split
    · refine ⟨by dsimp only; omega, fun j q1 q2 => ?_⟩
      show im_up _ _ _ j = _
      rw [im_up_ne _ _ (by omega)]
      exact h2 j q1 q2
    · exact ⟨h1, h2⟩
def hi_ans (lw : Option im_T) (v : Nat → Int) (R : Nat → Int → Int) (i : Int) : Int := if i = -1 then ((fh lw v R (v 0).toNat).1 : Int) else if 0 ≤ i ∧ i < ((fh lw v R (v 0).toNat).1 : Int) then (fh lw v R (v 0).toNat).2 i else -1
section Hd
variable {ro : ab_R} {T : List im_T} {d : Nat} {v : Nat → Int} {R : Nat → Int → Int} {lv : Nat → Int} {L : Nat → Int → Int} {lw : Option im_T}
set_option maxHeartbeats 8000000 in
theorem m_once (hd : 84 ≤ d) (hT : T.length < 1000) (ht : TLS v R lv L lw) {p : Int} (hp : im_ir p) : im_ct ro T d 209 [mr 0, .inl p] (MW v R) (fun r w => r = some (.inl (if p = -1 then (on_all lw (v 30) (-1) 0 lv L).1 6 else if 0 ≤ p ∧ p < lv 0 then (on_all lw (v 30) (-1) 0 lv L).2.2.2 p else -1)) ∧ QB v R w) := by
  obtain ⟨d, rfl⟩ : ∃ e, d = e + 1 := ⟨d - 1, by omega⟩
  have hpar := lk_par ht.2.1
  have e110 := ht.1.1.1
  refine im_ct_of (own := 9) (ret := (some .int)) (code := ab_k_X9_once) (nL := 3) (L0 := [some (mr 0), some (.inl p), none]) (n := 24) rfl rfl rfl rfl rfl rfl rfl rfl rfl ?_
  refine im_g 2 (y := (2, _, _, _)) rfl trivial ?_
  refine im_b rfl rfl ⟨(by omega), (by omega), trivial⟩ (fun br1 => ?_) (fun br1 => ?_)
  · refine im_g 3 (y := (18, _, _, _)) rfl trivial ?_
    refine im_cM rfl rfl (m_onceWith (v := v) (R := R) (lv := lv) (L := L) (lw := lw) (by omega) hT ht (p := -1) (y := 0) (by omega) (by decide) (by intro q1 q2; omega)) rfl hT (fun v1 w1 hq => ?_)
    obtain ⟨rfl, g, ge, b, o, c, a5, a, s, ov, rfl, hov⟩ := hq
    refine ⟨(pl_U (EV4 v g ge b o) 31 c), (pl_U (pl_U (pl_U (pl_U (pl_U R 5 a5) 12 a) 16 s) 17 ov) 2 (R 2)), rfl, rfl, ?_⟩
    refine im_g 3 (y := (24, _, _, _)) rfl trivial ?_
    refine im_b rfl rfl ⟨(by omega), (by omega), trivial⟩ (fun br2 => ?_) (fun br2 => ?_)
    · refine im_g 4 (y := (37, _, _, _)) rfl ⟨(by omega), trivial⟩ ?_
      refine im_r rfl rfl trivial rfl ?_
      rw [if_neg (by omega), if_pos (by omega)]
      exact ⟨congrArg (fun z => some (Sum.inl z)) (hov p (by omega) (by omega)).2, g, ge, b, o, c, a5, a, s, ov, rfl⟩
    · refine im_g 2 (y := (37, _, _, _)) rfl trivial ?_
      refine im_r rfl rfl trivial rfl ?_
      rw [if_pos (by omega)]
      exact ⟨rfl, g, ge, b, o, c, a5, a, s, ov, rfl⟩
  · refine im_g 2 (y := (7, _, _, _)) rfl trivial ?_
    refine im_cM rfl rfl (m_isParish (v := v) (R := R) (p := p) (by omega) hT hp (by omega)) rfl hT (fun v1 w1 hq => ?_)
    obtain ⟨rfl, rfl⟩ := hq
    refine ⟨v, R, rfl, rfl, ?_⟩
    refine im_b rfl rfl ⟨(by omega), trivial⟩ (fun br3 => ?_) (fun br3 => ?_)
    · have c10 : 0 ≤ p ∧ p ≤ R 2 110 - 1 := by
        by_cases hh : 0 ≤ p ∧ p ≤ R 2 110 - 1
        · exact hh
        · rw [if_neg hh] at br3; exact absurd rfl br3
      clear br3
      refine im_g 3 (y := (18, _, _, _)) rfl trivial ?_
      refine im_cM rfl rfl (m_onceWith (v := v) (R := R) (lv := lv) (L := L) (lw := lw) (by omega) hT ht (p := -1) (y := 0) (by omega) (by decide) (by intro q1 q2; omega)) rfl hT (fun v1 w1 hq => ?_)
      obtain ⟨rfl, g, ge, b, o, c, a5, a, s, ov, rfl, hov⟩ := hq
      refine ⟨(pl_U (EV4 v g ge b o) 31 c), (pl_U (pl_U (pl_U (pl_U (pl_U R 5 a5) 12 a) 16 s) 17 ov) 2 (R 2)), rfl, rfl, ?_⟩
      refine im_g 3 (y := (24, _, _, _)) rfl trivial ?_
      refine im_b rfl rfl ⟨(by omega), (by omega), trivial⟩ (fun br4 => ?_) (fun br4 => ?_)
      · refine im_g 4 (y := (37, _, _, _)) rfl ⟨(by omega), trivial⟩ ?_
        refine im_r rfl rfl trivial rfl ?_
        rw [if_neg (by omega), if_pos (by omega)]
        exact ⟨congrArg (fun z => some (Sum.inl z)) (hov p (by omega) (by omega)).2, g, ge, b, o, c, a5, a, s, ov, rfl⟩
      · refine im_g 2 (y := (37, _, _, _)) rfl trivial ?_
        refine im_r rfl rfl trivial rfl ?_
        rw [if_pos (by omega)]
        exact ⟨rfl, g, ge, b, o, c, a5, a, s, ov, rfl⟩
    · have c10 : ¬ (0 ≤ p ∧ p ≤ R 2 110 - 1) := by
        intro hh
        rw [if_pos hh] at br3
        exact br3 (by decide)
      clear br3
      refine im_g 1 (y := (14, _, _, _)) rfl trivial ?_
      refine im_r rfl rfl trivial rfl ?_
      rw [if_neg (by omega), if_neg (by omega)]
      exact ⟨rfl, QB_0 v R⟩
set_option maxHeartbeats 8000000 in
theorem m_allHeard (hd : 1 ≤ d) (hT : T.length < 1000) (hr : KR (R 2) lv L) (hlo : LOK lv L) {oc : Int → Int} (hov : ∀ x, 0 ≤ x → x < lv 0 → R 17 x = oc x) (hob : ∀ x, 0 ≤ x → x < lv 0 → -1000000 ≤ oc x ∧ oc x ≤ 1000000) : im_ct ro T d 220 [mr 0] (MW v R) (fun r w => r = some (.inl (if hd_all oc lv L (lv 3).toNat = true then (1 : Int) else 0)) ∧ w = MW v R) := by
  obtain ⟨d, rfl⟩ : ∃ e, d = e + 1 := ⟨d - 1, by omega⟩
  have hh3 := lk_hrd hlo
  have hpar := lk_par hlo
  have e111 := hr.1.2.2.2.1
  refine im_ct_of (own := 9) (ret := (some .boolean)) (code := ab_k_X9_isAllHeard) (nL := 3) (L0 := [some (mr 0), none, none]) (n := 24) rfl rfl rfl rfl rfl rfl rfl rfl rfl ?_
  refine im_g 4 (y := (4, _, _, _)) rfl trivial ?_
  refine im_for (lv 3).toNat (fun k => (4, [some (mr 0), some (.inl (if hd_all oc lv L k = true then (1 : Int) else 0)), some (.inl (k : Int))], [], MW v R)) (fun k hk ih => ?_) ?_
  · have hh := hr.2.2.2.2 k (by omega) (by omega)
    have hof := lk_hof hlo (k : Int)
    have hea := lk_hea hlo (p := (k : Int)) (by omega) (by omega)
    have hhv := lk_hov hlo (k : Int)
    have ho := hov (L 8 (k : Int)) (by omega) hea
    have ec : hd_all oc lv L (k + 1) = (hd_all oc lv L k && decide (oc (L 8 (k : Int)) = L 9 (k : Int))) := rfl
    have eo : R 17 (R 2 (91 + 2 * (k : Int))) = oc (L 8 (k : Int)) := by rw [hh.1]; exact ho
    have hoc := hob (L 8 (k : Int)) (by omega) hea
    refine im_g 5 (y := (12, _, _, _)) rfl ⟨(by omega), trivial⟩ ?_
    refine im_bF rfl rfl ⟨(by omega), (by omega), trivial⟩ (by omega) ?_
    refine im_g 1 (y := (16, _, _, _)) rfl trivial ?_
    refine im_b rfl rfl ⟨(by split <;> decide), trivial⟩ (fun br1 => ?_) (fun br1 => ?_)
    · refine im_g 4 (y := (4, _, _, _)) rfl trivial ?_
      have hf : ¬ hd_all oc lv L k = true := by intro z; rw [if_pos z] at br1; exact absurd br1 (by decide)
      rw [ec, show (hd_all oc lv L k && decide (oc (L 8 (k : Int)) = L 9 (k : Int))) = false by rw [Bool.eq_false_iff.mpr hf]; rfl] at ih
      exact ih
    · refine im_g 21 (y := (48, _, _, _)) rfl ⟨(by omega), (by rw [hh.1]; omega), (by omega), trivial⟩ ?_
      refine im_b rfl rfl ⟨(by first | (rw [eo]; constructor <;> omega) | (rw [hh.2]; constructor <;> omega)), (by first | (rw [eo]; constructor <;> omega) | (rw [hh.2]; constructor <;> omega)), trivial⟩ (fun br2 => ?_) (fun br2 => ?_)
      · refine im_g 4 (y := (4, _, _, _)) rfl trivial ?_
        have hf : hd_all oc lv L k = true := by by_cases z : hd_all oc lv L k = true; exact z; exact absurd (if_neg z) br1
        have hne : ¬ oc (L 8 (k : Int)) = L 9 (k : Int) := by rw [← eo, ← hh.2]; exact br2
        rw [ec, hf, decide_eq_false hne] at ih
        exact ih
      · refine im_g 5 (y := (4, _, _, _)) rfl trivial ?_
        have hf : hd_all oc lv L k = true := by by_cases z : hd_all oc lv L k = true; exact z; exact absurd (if_neg z) br1
        have hne : oc (L 8 (k : Int)) = L 9 (k : Int) := by rw [← eo, ← hh.2]; exact Classical.not_not.mp br2
        rw [ec, hf, decide_eq_true hne] at ih
        exact ih
  · refine im_g 5 (y := (12, _, _, _)) rfl ⟨(by omega), trivial⟩ ?_
    refine im_bT rfl rfl ⟨(by omega), (by omega), trivial⟩ (by omega) ?_
    refine im_g 1 (y := (64, _, _, _)) rfl trivial ?_
    refine im_r rfl rfl ⟨(by split <;> decide), trivial⟩ rfl ?_
    exact ⟨rfl, rfl⟩
set_option maxHeartbeats 8000000 in
theorem m_isHidden (hd : 84 ≤ d) (hT : T.length < 1000) (ht : TLS v R lv L lw) (h30 : v 30 = 0) {p : Int} (hp : 0 ≤ p ∧ p < lv 0) : im_ct ro T d 221 [mr 0, .inl p] (MW v R) (fun r w => r = some (.inl (if fh_is lw lv L p = true then (1 : Int) else 0)) ∧ QB v R w) := by
  obtain ⟨d, rfl⟩ : ∃ e, d = e + 1 := ⟨d - 1, by omega⟩
  have hpar := lk_par ht.2.1
  have hkp := (ht.1.2.2.1 p hp.1 (by omega)).2.2.1
  have hcn := lk_cnt ht.2.1 p
  refine im_ct_of (own := 9) (ret := (some .boolean)) (code := ab_k_X9_isHidden) (nL := 2) (L0 := [some (mr 0), some (.inl p)]) (n := 24) rfl rfl rfl rfl rfl rfl rfl rfl rfl ?_
  refine im_g 6 (y := (8, _, _, _)) rfl ⟨(by omega), trivial⟩ ?_
  refine im_b rfl rfl ⟨(by omega), trivial⟩ (fun br1 => ?_) (fun br1 => ?_)
  · refine im_g 3 (y := (16, _, _, _)) rfl trivial ?_
    refine im_cM rfl rfl (m_onceWith (v := v) (R := R) (lv := lv) (L := L) (lw := lw) (by omega) hT ht (p := p) (y := -1) (by omega) (by decide) (by intro q1 q2; omega)) rfl hT (fun v1 w1 hq => ?_)
    obtain ⟨rfl, g, ge, b, o, c, a5, a, s, ov, rfl, hov⟩ := hq
    refine ⟨(pl_U (EV4 v g ge b o) 31 c), (pl_U (pl_U (pl_U (pl_U (pl_U R 5 a5) 12 a) 16 s) 17 ov) 2 (R 2)), rfl, rfl, ?_⟩
    rw [h30] at hov
    refine im_g 2 (y := (21, _, _, _)) rfl trivial ?_
    refine im_cM rfl rfl (m_allHeard (v := (pl_U (EV4 v g ge b o) 31 c)) (R := (pl_U (pl_U (pl_U (pl_U (pl_U R 5 a5) 12 a) 16 s) 17 ov) 2 (R 2))) (lv := lv) (L := L) (by omega) hT ht.1 ht.2.1 (oc := (on_all lw 0 p (-1) lv L).2.2.1) (fun x q1 q2 => (hov x q1 q2).1) (fun x _ _ => (on_all_b ht.2.1 (by intro q1 q2; omega)).2.1 x)) rfl hT (fun v1 w1 hq => ?_)
    obtain ⟨rfl, rfl⟩ := hq
    refine ⟨(pl_U (EV4 v g ge b o) 31 c), (pl_U (pl_U (pl_U (pl_U (pl_U R 5 a5) 12 a) 16 s) 17 ov) 2 (R 2)), rfl, rfl, ?_⟩
    refine im_r rfl rfl ⟨(by first | decide | (split <;> decide)), trivial⟩ rfl ?_
    have e : fh_is lw lv L p = hd_all (on_all lw 0 p (-1) lv L).2.2.1 lv L (lv 3).toNat := by
      unfold fh_is
      rw [decide_eq_true (by omega)]
      rfl
    rw [e]
    exact ⟨rfl, g, ge, b, o, c, a5, a, s, ov, rfl⟩
  · refine im_g 1 (y := (12, _, _, _)) rfl trivial ?_
    refine im_r rfl rfl ⟨(by first | decide | (split <;> decide)), trivial⟩ rfl ?_
    have e : fh_is lw lv L p = false := by
      unfold fh_is
      rw [decide_eq_false (by omega)]
      rfl
    rw [e]
    exact ⟨rfl, QB_0 v R⟩
theorem MW_inj {v v' : Nat → Int} {R R' : Nat → Int → Int} (h : MW v R = MW v' R') : (∀ j ∈ [0, 6, 8, 9, 10, 13, 14, 18, 19, 20, 21, 22, 23, 24, 25, 27, 28, 30, 31, 34, 41, 42, 43, 44, 45, 46, 49, 50, 51], v j = v' j) ∧ ∀ j, 1 ≤ j → j ≤ 23 → R j = R' j := by
  unfold MW at h
  simp only [List.cons.injEq, Sum.inl.injEq, Sum.inr.injEq, Prod.mk.injEq, true_and, and_true] at h
  obtain ⟨⟨h0, h6, h8, h9, h10, h13, h14, h18, h19, h20, h21, h22, h23, h24, h25, h27, h28, h30, h31, h34, h41, h42, h43, h44, h45, h46, h49, h50, h51⟩, r1, r2, r3, r4, r5, r6, r7, r8, r9, r10, r11, r12, r13, r14, r15, r16, r17, r18, r19, r20, r21, r22, r23⟩ := h
  refine ⟨?_, ?_⟩
  · intro j hj
    simp only [List.mem_cons, List.not_mem_nil, or_false] at hj
    rcases hj with rfl | rfl | rfl | rfl | rfl | rfl | rfl | rfl | rfl | rfl | rfl | rfl | rfl | rfl | rfl | rfl | rfl | rfl | rfl | rfl | rfl | rfl | rfl | rfl | rfl | rfl | rfl | rfl | rfl <;> assumption
  · intro j h1 h2
    have hj : j = 1 ∨ j = 2 ∨ j = 3 ∨ j = 4 ∨ j = 5 ∨ j = 6 ∨ j = 7 ∨ j = 8 ∨ j = 9 ∨ j = 10 ∨ j = 11 ∨ j = 12 ∨ j = 13 ∨ j = 14 ∨ j = 15 ∨ j = 16 ∨ j = 17 ∨ j = 18 ∨ j = 19 ∨ j = 20 ∨ j = 21 ∨ j = 22 ∨ j = 23 := by omega
    rcases hj with rfl | rfl | rfl | rfl | rfl | rfl | rfl | rfl | rfl | rfl | rfl | rfl | rfl | rfl | rfl | rfl | rfl | rfl | rfl | rfl | rfl | rfl | rfl <;> assumption
theorem MW_ext {v v' : Nat → Int} {R R' : Nat → Int → Int} (hv : ∀ j ∈ [0, 6, 8, 9, 10, 13, 14, 18, 19, 20, 21, 22, 23, 24, 25, 27, 28, 30, 31, 34, 41, 42, 43, 44, 45, 46, 49, 50, 51], v j = v' j) (hR : ∀ j, 1 ≤ j → j ≤ 23 → R j = R' j) : MW v R = MW v' R' := by
  unfold MW
  rw [hv 0 (by decide), hv 6 (by decide), hv 8 (by decide), hv 9 (by decide), hv 10 (by decide), hv 13 (by decide), hv 14 (by decide), hv 18 (by decide), hv 19 (by decide), hv 20 (by decide), hv 21 (by decide), hv 22 (by decide), hv 23 (by decide), hv 24 (by decide), hv 25 (by decide), hv 27 (by decide), hv 28 (by decide), hv 30 (by decide), hv 31 (by decide), hv 34 (by decide), hv 41 (by decide), hv 42 (by decide), hv 43 (by decide), hv 44 (by decide), hv 45 (by decide), hv 46 (by decide), hv 49 (by decide), hv 50 (by decide), hv 51 (by decide), hR 1 (by decide) (by decide), hR 2 (by decide) (by decide), hR 3 (by decide) (by decide), hR 4 (by decide) (by decide), hR 5 (by decide) (by decide), hR 6 (by decide) (by decide), hR 7 (by decide) (by decide), hR 8 (by decide) (by decide), hR 9 (by decide) (by decide), hR 10 (by decide) (by decide), hR 11 (by decide) (by decide), hR 12 (by decide) (by decide), hR 13 (by decide) (by decide), hR 14 (by decide) (by decide), hR 15 (by decide) (by decide), hR 16 (by decide) (by decide), hR 17 (by decide) (by decide), hR 18 (by decide) (by decide), hR 19 (by decide) (by decide), hR 20 (by decide) (by decide), hR 21 (by decide) (by decide), hR 22 (by decide) (by decide), hR 23 (by decide) (by decide)]
/-- again and again -/
theorem QB_t {v v' : Nat → Int} {R R' : Nat → Int → Int} {g ge b o c : Int} {a5 a s ov : Int → Int} {g2 ge2 b2 o2 c2 : Int} {a52 a2 s2 ov2 : Int → Int} (h : MW v' R' = BW v R g2 ge2 b2 o2 c2 a52 a2 s2 ov2) : QB v R (MW (pl_U (EV4 v' g ge b o) 31 c) (pl_U (pl_U (pl_U (pl_U (pl_U R' 5 a5) 12 a) 16 s) 17 ov) 2 (R' 2))) := by
  obtain ⟨h1, h2⟩ := MW_inj h
  refine ⟨g, ge, b, o, c, a5, a, s, ov, ?_⟩
  refine MW_ext (fun j hj => ?_) (fun j q1 q2 => ?_)
  · have t := h1 j hj
    revert t
    unfold EV4 pl_U
    by_cases e31 : j = 31
    · rw [if_pos e31, if_pos e31, if_pos e31]; exact fun _ => rfl
    rw [if_neg e31, if_neg e31, if_neg e31]
    by_cases e25 : j = 25
    · rw [if_pos e25, if_pos e25, if_pos e25]; exact fun _ => rfl
    rw [if_neg e25, if_neg e25, if_neg e25]
    by_cases e24 : j = 24
    · rw [if_pos e24, if_pos e24, if_pos e24]; exact fun _ => rfl
    rw [if_neg e24, if_neg e24, if_neg e24]
    by_cases e23 : j = 23
    · rw [if_pos e23, if_pos e23, if_pos e23]; exact fun _ => rfl
    rw [if_neg e23, if_neg e23, if_neg e23]
    by_cases e22 : j = 22
    · rw [if_pos e22, if_pos e22, if_pos e22]; exact fun _ => rfl
    rw [if_neg e22, if_neg e22, if_neg e22]
    exact id
  · have t := h2 j q1 q2
    have t2 := h2 2 (by decide) (by decide)
    revert t
    unfold pl_U at t2 ⊢
    rw [if_pos rfl] at t2
    rw [t2]
    by_cases f2 : j = 2
    · rw [if_pos f2, if_pos f2, if_pos f2]; exact fun _ => rfl
    rw [if_neg f2, if_neg f2, if_neg f2]
    by_cases f17 : j = 17
    · rw [if_pos f17, if_pos f17, if_pos f17]; exact fun _ => rfl
    rw [if_neg f17, if_neg f17, if_neg f17]
    by_cases f16 : j = 16
    · rw [if_pos f16, if_pos f16, if_pos f16]; exact fun _ => rfl
    rw [if_neg f16, if_neg f16, if_neg f16]
    by_cases f12 : j = 12
    · rw [if_pos f12, if_pos f12, if_pos f12]; exact fun _ => rfl
    rw [if_neg f12, if_neg f12, if_neg f12]
    by_cases f5 : j = 5
    · rw [if_pos f5, if_pos f5, if_pos f5]; exact fun _ => rfl
    rw [if_neg f5, if_neg f5, if_neg f5]
    exact id
set_option maxHeartbeats 8000000 in
theorem m_hidden (hd : 85 ≤ d) (hT : T.length < 1000) (ht : TLS v R lv L lw) (h30 : v 30 = 0) {i : Int} (hi : im_ir i) : im_ct ro T d 222 [mr 0, .inl i] (MW v R) (fun r w => r = some (.inl (hi_ans lw lv L i)) ∧ QB v R w) := by
  obtain ⟨d, rfl⟩ : ∃ e, d = e + 1 := ⟨d - 1, by omega⟩
  have hpar := lk_par ht.2.1
  refine im_ct_of (own := 9) (ret := (some .int)) (code := ab_k_X9_hidden) (nL := 4) (L0 := [some (mr 0), some (.inl i), none, none]) (n := 24) rfl rfl rfl rfl rfl rfl rfl rfl rfl ?_
  refine im_g 2 (y := (2, _, _, _)) rfl trivial ?_
  refine im_b rfl rfl ⟨(by omega), (by omega), trivial⟩ (fun br1 => ?_) (fun br1 => ?_)
  · refine im_g 4 (y := (11, _, _, _)) rfl trivial ?_
    have key : ∀ (n k : Nat) (v' : Nat → Int) (R' : Nat → Int → Int), (k : Int) + n = lv 0 → (∃ g ge b o c a5 a s ov, MW v' R' = BW v R g ge b o c a5 a s ov) → R' 2 = R 2 → v' 30 = 0 → (¬ i = -1 → ((fh lw lv L k).1 : Int) ≤ i) → im_wp ro (ab_Ev ro ab_codes d) 9 (some .int) ab_k_X9_hidden 24 T (fun r w => r = some (.inl (hi_ans lw lv L i)) ∧ QB v R w) (11, [some (mr 0), some (.inl i), some (.inl ((fh lw lv L k).1 : Int)), some (.inl (k : Int))], [], MW v' R') := by
      intro n
      induction n with
      | zero =>
        intro k v' R' hk hQ h2 h3 hi2
        obtain rfl : k = (lv 0).toNat := by omega
        have e1 : R' 2 110 = lv 0 := by rw [h2]; exact ht.1.1.1
        refine im_g 5 (y := (19, _, _, _)) rfl ⟨(by omega), trivial⟩ ?_
        refine im_bT rfl rfl ⟨(by first | (constructor <;> omega) | omega), (by first | (constructor <;> omega) | omega), trivial⟩ (by omega) ?_
        refine im_g 2 (y := (51, _, _, _)) rfl trivial ?_
        refine im_b rfl rfl ⟨(by omega), (by omega), trivial⟩ (fun br1 => ?_) (fun br1 => ?_)
        · refine im_g 1 (y := (59, _, _, _)) rfl trivial ?_
          refine im_r rfl rfl trivial rfl ?_
          have e : hi_ans lw lv L i = -1 := by
            unfold hi_ans
            rw [if_neg (by omega), if_neg (by have t := hi2 (by omega); omega)]
          rw [e]
          exact ⟨rfl, hQ⟩
        · refine im_g 2 (y := (59, _, _, _)) rfl trivial ?_
          refine im_r rfl rfl trivial rfl ?_
          have e : hi_ans lw lv L i = ((fh lw lv L (lv 0).toNat).1 : Int) := if_pos (by omega)
          rw [e]
          exact ⟨rfl, hQ⟩
      | succ n ih =>
        intro k v' R' hk hQ h2 h3 hi2
        have e1 : R' 2 110 = lv 0 := by rw [h2]; exact ht.1.1.1
        have htl : TLS v' R' lv L lw := by
          obtain ⟨x1, x2, x3, x4, x5, x6⟩ := ht
          unfold TLS
          rw [h2]
          exact ⟨x1, x2, x3, x4, x5, Or.inl h3⟩
        have hfb := fh_b lw lv L k
        have es : fh lw lv L (k + 1) = if fh_is lw lv L (k : Int) = true then ((fh lw lv L k).1 + 1, im_up (fh lw lv L k).2 ((fh lw lv L k).1 : Int) (k : Int)) else fh lw lv L k := rfl
        refine im_g 5 (y := (19, _, _, _)) rfl ⟨(by omega), trivial⟩ ?_
        refine im_bF rfl rfl ⟨(by first | (constructor <;> omega) | omega), (by first | (constructor <;> omega) | omega), trivial⟩ (by omega) ?_
        refine im_g 2 (y := (24, _, _, _)) rfl trivial ?_
        refine im_cM rfl rfl (m_isHidden (v := v') (R := R') (lv := lv) (L := L) (lw := lw) (by omega) hT htl h3 (p := (k : Int)) (by omega)) rfl hT (fun v1 w1 hq => ?_)
        obtain ⟨rfl, g, ge, b, o, c, a5, a, s, ov, rfl⟩ := hq
        refine ⟨(pl_U (EV4 v' g ge b o) 31 c), (pl_U (pl_U (pl_U (pl_U (pl_U R' 5 a5) 12 a) 16 s) 17 ov) 2 (R' 2)), rfl, rfl, ?_⟩
        have hQ2 : QB v R (MW (pl_U (EV4 v' g ge b o) 31 c) (pl_U (pl_U (pl_U (pl_U (pl_U R' 5 a5) 12 a) 16 s) 17 ov) 2 (R' 2))) := by
          obtain ⟨y1, y2, y3, y4, y5, y6, y7, y8, y9, hy⟩ := hQ
          exact QB_t hy
        refine im_b rfl rfl ⟨(by omega), trivial⟩ (fun br1 => ?_) (fun br1 => ?_)
        · have c27 : fh_is lw lv L (k : Int) = true := by
            by_cases hh : fh_is lw lv L (k : Int) = true
            · exact hh
            · rw [if_neg hh] at br1; exact absurd rfl br1
          clear br1
          refine im_g 2 (y := (35, _, _, _)) rfl trivial ?_
          refine im_b rfl rfl ⟨(by omega), (by omega), trivial⟩ (fun br2 => ?_) (fun br2 => ?_)
          · refine im_g 3 (y := (11, _, _, _)) rfl trivial ?_
            rw [if_pos c27] at es
            have t := ih (k + 1) (pl_U (EV4 v' g ge b o) 31 c) (pl_U (pl_U (pl_U (pl_U (pl_U R' 5 a5) 12 a) 16 s) 17 ov) 2 (R' 2)) (by omega) hQ2 h2 h3 (fun z => by rw [es]; have t1 := hi2 z; show (((fh lw lv L k).1 + 1 : Nat) : Int) ≤ i; omega)
            rw [es] at t
            exact t
          · refine im_g 1 (y := (39, _, _, _)) rfl trivial ?_
            refine im_r rfl rfl trivial rfl ?_
            rw [if_pos c27] at es
            have hii : i = ((fh lw lv L k).1 : Int) := by have t := br2; omega
            have hup := fh_up lw lv L (k + 1) ((lv 0).toNat - (k + 1))
            rw [show k + 1 + ((lv 0).toNat - (k + 1)) = (lv 0).toNat by omega, es] at hup
            have hup1 : (fh lw lv L k).1 + 1 ≤ (fh lw lv L (lv 0).toNat).1 := hup.1
            have hup2 := hup.2 i (by omega) (by show i < (((fh lw lv L k).1 + 1 : Nat) : Int); omega)
            have e : hi_ans lw lv L i = k := by
              unfold hi_ans
              rw [if_neg (by omega), if_pos (by omega), hup2]
              show im_up _ _ _ i = _
              rw [hii, im_up_self]
            rw [e]
            exact ⟨rfl, hQ2⟩
        · have c27 : ¬ (fh_is lw lv L (k : Int) = true) := by
            intro hh
            rw [if_pos hh] at br1
            exact br1 (by decide)
          clear br1
          refine im_g 3 (y := (11, _, _, _)) rfl trivial ?_
          rw [if_neg c27] at es
          have t := ih (k + 1) (pl_U (EV4 v' g ge b o) 31 c) (pl_U (pl_U (pl_U (pl_U (pl_U R' 5 a5) 12 a) 16 s) 17 ov) 2 (R' 2)) (by omega) hQ2 h2 h3 (fun z => by rw [es]; exact hi2 z)
          rw [es] at t
          exact t
    refine im_eqs (y := (11, [some (mr 0), some (.inl i), some (.inl ((fh lw lv L 0).1 : Int)), some (.inl ((0 : Nat) : Int))], [], MW v R)) rfl ?_
    exact key (lv 0).toNat 0 v R (by omega) ⟨v 22, v 23, v 24, v 25, v 31, R 5, R 12, R 16, R 17, rfl⟩ rfl h30 (fun z => by show (0 : Int) ≤ i; omega)
  · refine im_g 1 (y := (6, _, _, _)) rfl trivial ?_
    refine im_r rfl rfl trivial rfl ?_
    have e : hi_ans lw lv L i = -1 := by
      unfold hi_ans
      rw [if_neg (by omega), if_neg (by omega)]
    rw [e]
    exact ⟨rfl, QB_0 v R⟩
end Hd
