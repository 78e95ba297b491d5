/-! the reference: of, count, drawn, row -/
def cn_ans (v : Nat → Int) (F : Int → Int) (lv : Nat → Int) (L : Nat → Int → Int) (what : Int) : Int := if what = 0 then lv 0 else if what = 1 then lv 1 else if what = 2 then pl_sum (L 5) (lv 1).toNat else if what = 3 then lv 2 else if what = 4 then lv 3 else if what = 5 then lv 4 else if what = 6 then v 34 else if what = 7 then v 13 else if what = 8 then F 1 else if what = 9 then F 2 else if what = 10 then F 3 else if what = 11 then F 5 else if what = 12 then F 6 else if what = 13 then lv 5 else if what = 14 then L 7 0 else if what = 15 then L 7 1 else if what = 16 then L 7 2 else if what = 17 then L 7 3 else -1
def dn_ans (v : Nat → Int) (F : Int → Int) (k what : Int) : Int := if v 49 = -1 then -1 else if what = 0 then (if 0 ≤ k ∧ k ≤ v 49 - 1 then F (0 + k) else -1) else if what = 1 then (if 0 ≤ k ∧ k ≤ v 49 - 1 then F (10 + k) else -1) else if what = 2 then v 50 else -1
theorem pl_add_no {u c : Int} {v : Nat → Int} {R : Nat → Int → Int} (h : 10 ≤ v 0 ∨ ¬ ((-1 ≤ u ∧ u ≤ v 0 - 1) ∧ (0 ≤ c ∧ c ≤ 999))) : (pl_add u c v R).1 < 0 ∧ (pl_add u c v R).2 = (v, R) := by
  unfold pl_add
  split
  · exact ⟨(show (-1 : Int) < 0 by decide), rfl⟩
  split
  · exact ⟨(show (-5 : Int) < 0 by decide), rfl⟩
  · exfalso
    omega
theorem ob_no {at_ b : Int} {A : Int → Int} {v : Nat → Int} {R : Nat → Int → Int} (h : 10 ≤ v 0 ∨ 9 < A (at_ + 2) ∨ ¬ ((-1 ≤ A at_ - 1 ∧ A at_ - 1 ≤ v 0 - 1) ∧ (0 ≤ 10 * A (at_ + 1) + A (at_ + 2) ∧ 10 * A (at_ + 1) + A (at_ + 2) ≤ 999))) : ob_tape at_ b A v R = (0, v, R) := by
  unfold ob_tape
  split
  · rfl
  · rename_i hc
    have t := pl_add_no (u := A at_ - 1) (c := 10 * A (at_ + 1) + A (at_ + 2)) (v := v) (R := R) (by
      rcases h with h | h | h
      · exact Or.inl h
      · exact absurd (Or.inr (Or.inr (Or.inr h))) hc
      · exact Or.inr h)
    rw [if_pos t.1, t.2]
theorem ob_yes {at_ b : Int} {A : Int → Int} {v : Nat → Int} {R : Nat → Int → Int} (h0 : 0 ≤ v 0) (h1 : ¬ (at_ < 0 ∨ b ≤ at_ + 2 ∨ 400 ≤ at_ + 2 ∨ 9 < A (at_ + 2))) (h2 : (pl_add (A at_ - 1) (10 * A (at_ + 1) + A (at_ + 2)) v R).1 = v 0) : ob_tape at_ b A v R = (1, (pl_add (A at_ - 1) (10 * A (at_ + 1) + A (at_ + 2)) v R).2) := by
  unfold ob_tape
  rw [if_neg h1, if_neg (by omega)]
section Rr2
variable {ro : ab_R} {T : List im_T} {d : Nat} {v : Nat → Int} {R : Nat → Int → Int} {lv : Nat → Int} {L : Nat → Int → Int} {lw : Option im_T}
set_option maxHeartbeats 8000000 in
theorem m_of (hd : 84 ≤ d) (hT : T.length < 1000) (ht : TLS v R lv L lw) (h30 : v 30 = 0) {p what : Int} (hp : im_ir p) (hw : im_ir what) : im_ct ro T d 138 [mr 0, .inl p, .inl what] (MW v R) (fun r w => r = some (.inl (of_ans lw lv L p what)) ∧ ∃ v1 R1, w = MW v1 R1 ∧ QZ v R v1 R1 ∧ R1 2 = R 2) := by
  obtain ⟨d, rfl⟩ : ∃ e, d = e + 1 := ⟨d - 1, by omega⟩
  have hpar := lk_par ht.2.1
  have e110 := ht.1.1.1
  refine im_ct_of (own := 9) (ret := (some .int)) (code := ab_k_X9_of) (nL := 3) (L0 := [some (mr 0), some (.inl p), some (.inl what)]) (n := 24) rfl rfl rfl rfl rfl rfl rfl rfl rfl ?_
  refine im_g 2 (y := (2, _, _, _)) rfl trivial ?_
  refine im_cM rfl rfl (m_isParish (v := v) (R := R) (p := p) (by omega) hT hp (by omega)) rfl hT (fun v1 w1 hq => ?_)
  obtain ⟨rfl, rfl⟩ := hq
  refine ⟨v, R, rfl, rfl, ?_⟩
  refine im_b rfl rfl ⟨(by omega), trivial⟩ (fun br1 => ?_) (fun br1 => ?_)
  · have c5 : 0 ≤ p ∧ p ≤ R 2 110 - 1 := by
      by_cases hh : 0 ≤ p ∧ p ≤ R 2 110 - 1
      · exact hh
      · rw [if_neg hh] at br1; exact absurd rfl br1
    clear br1
    have hpp : 0 ≤ p ∧ p < lv 0 := by omega
    have hp10 : 0 ≤ p ∧ p < 10 := by omega
    have hkr := ht.1.2.2.1 p hp10.1 hp10.2
    have hbb := as_bar_b lw p 0 L
    refine im_g 1 (y := (13, _, _, _)) rfl trivial ?_
    have hk : what = 0 ∨ what = 1 ∨ what = 2 ∨ what = 3 ∨ what = 4 ∨ what = 5 ∨ what = 6 ∨ what = 7 ∨ what = 8 ∨ what = 9 ∨ (what < 0 ∨ 9 < what) := by omega
    rcases hk with rfl | rfl | rfl | rfl | rfl | rfl | rfl | rfl | rfl | rfl | hk
    · refine im_sw (tgt := 68) rfl (by decide) (by decide) (Or.inr ⟨_, rfl, by decide⟩) (by decide) ?_
      refine im_g 6 (y := (77, _, _, _)) rfl ⟨(by omega), trivial⟩ ?_
      refine im_r rfl rfl trivial rfl ?_
      have e : of_ans lw lv L p 0 = L 0 p := by
        unfold of_ans
        rw [if_neg (fun z => z hpp)]
        rfl
      rw [e]
      exact ⟨congrArg (fun z => some (Sum.inl z)) hkr.1, v, R, rfl, QZ_0 v R, rfl⟩
    · refine im_sw (tgt := 78) rfl (by decide) (by decide) (Or.inr ⟨_, rfl, by decide⟩) (by decide) ?_
      refine im_g 6 (y := (86, _, _, _)) rfl ⟨(by omega), trivial⟩ ?_
      refine im_r rfl rfl trivial rfl ?_
      have e : of_ans lw lv L p 1 = L 2 p := by
        unfold of_ans
        rw [if_neg (fun z => z hpp)]
        rfl
      rw [e]
      exact ⟨congrArg (fun z => some (Sum.inl z)) hkr.2.2.1, v, R, rfl, QZ_0 v R, rfl⟩
    · refine im_sw (tgt := 87) rfl (by decide) (by decide) (Or.inr ⟨_, rfl, by decide⟩) (by decide) ?_
      refine im_g 6 (y := (96, _, _, _)) rfl ⟨(by omega), trivial⟩ ?_
      refine im_r rfl rfl trivial rfl ?_
      have e : of_ans lw lv L p 2 = L 1 p := by
        unfold of_ans
        rw [if_neg (fun z => z hpp)]
        rfl
      rw [e]
      exact ⟨congrArg (fun z => some (Sum.inl z)) hkr.2.1, v, R, rfl, QZ_0 v R, rfl⟩
    · refine im_sw (tgt := 97) rfl (by decide) (by decide) (Or.inr ⟨_, rfl, by decide⟩) (by decide) ?_
      refine im_g 6 (y := (106, _, _, _)) rfl ⟨(by omega), trivial⟩ ?_
      refine im_r rfl rfl trivial rfl ?_
      have e : of_ans lw lv L p 3 = L 3 p := by
        unfold of_ans
        rw [if_neg (fun z => z hpp)]
        rfl
      rw [e]
      exact ⟨congrArg (fun z => some (Sum.inl z)) hkr.2.2.2, v, R, rfl, QZ_0 v R, rfl⟩
    · refine im_sw (tgt := 107) rfl (by decide) (by decide) (Or.inr ⟨_, rfl, by decide⟩) (by decide) ?_
      refine im_g 2 (y := (109, _, _, _)) rfl trivial ?_
      refine im_cM rfl rfl (show im_ct ro T d 184 [mr 0, .inl p] (MW v R) (fun r w => r = some (.inl (as_tens lw p 0 L)) ∧ QS v R w) from (by have t := m_tens (ro := ro) (T := T) (d := d) (v := v) (R := R) (lv := lv) (L := L) (lw := lw) (p := p) (by omega) hT ht hp10; rw [h30] at t; exact t)) rfl hT (fun v1 w1 hq => ?_)
      obtain ⟨rfl, g, ge, b, o, a, rfl⟩ := hq
      refine ⟨(EV4 v g ge b o), (pl_U R 12 a), rfl, rfl, ?_⟩
      refine im_r rfl rfl trivial rfl ?_
      have e : of_ans lw lv L p 4 = as_tens lw p 0 L := by
        unfold of_ans
        rw [if_neg (fun z => z hpp)]
        rfl
      rw [e]
      exact ⟨rfl, _, _, rfl, QZ_ev (QZ_0 v R) g ge b o a, rfl⟩
    · refine im_sw (tgt := 113) rfl (by decide) (by decide) (Or.inr ⟨_, rfl, by decide⟩) (by decide) ?_
      refine im_g 2 (y := (115, _, _, _)) rfl trivial ?_
      refine im_cM rfl rfl (show im_ct ro T d 185 [mr 0, .inl p] (MW v R) (fun r w => r = some (.inl (as_over lw p 0 L)) ∧ QS v R w) from (by have t := m_over (ro := ro) (T := T) (d := d) (v := v) (R := R) (lv := lv) (L := L) (lw := lw) (p := p) (by omega) hT ht hp10; rw [h30] at t; exact t)) rfl hT (fun v1 w1 hq => ?_)
      obtain ⟨rfl, g, ge, b, o, a, rfl⟩ := hq
      refine ⟨(EV4 v g ge b o), (pl_U R 12 a), rfl, rfl, ?_⟩
      refine im_r rfl rfl trivial rfl ?_
      have e : of_ans lw lv L p 5 = as_over lw p 0 L := by
        unfold of_ans
        rw [if_neg (fun z => z hpp)]
        rfl
      rw [e]
      exact ⟨rfl, _, _, rfl, QZ_ev (QZ_0 v R) g ge b o a, rfl⟩
    · refine im_sw (tgt := 119) rfl (by decide) (by decide) (Or.inr ⟨_, rfl, by decide⟩) (by decide) ?_
      refine im_g 2 (y := (121, _, _, _)) rfl trivial ?_
      refine im_cM rfl rfl (show im_ct ro T d 186 [mr 0, .inl p] (MW v R) (fun r w => r = some (.inl (as_over lw p 0 L - as_stay lw p 0 L)) ∧ QS v R w) from (by have t := m_walkers (ro := ro) (T := T) (d := d) (v := v) (R := R) (lv := lv) (L := L) (lw := lw) (p := p) (by omega) hT ht hp10; rw [h30] at t; exact t)) rfl hT (fun v1 w1 hq => ?_)
      obtain ⟨rfl, g, ge, b, o, a, rfl⟩ := hq
      refine ⟨(EV4 v g ge b o), (pl_U R 12 a), rfl, rfl, ?_⟩
      refine im_r rfl rfl trivial rfl ?_
      have e : of_ans lw lv L p 6 = as_over lw p 0 L - as_stay lw p 0 L := by
        unfold of_ans
        rw [if_neg (fun z => z hpp)]
        rfl
      rw [e]
      exact ⟨rfl, _, _, rfl, QZ_ev (QZ_0 v R) g ge b o a, rfl⟩
    · refine im_sw (tgt := 125) rfl (by decide) (by decide) (Or.inr ⟨_, rfl, by decide⟩) (by decide) ?_
      refine im_g 2 (y := (127, _, _, _)) rfl trivial ?_
      refine im_cM rfl rfl (show im_ct ro T d 187 [mr 0, .inl p] (MW v R) (fun r w => r = some (.inl (as_steps lw p 0 L)) ∧ QS v R w) from (by have t := m_steps (ro := ro) (T := T) (d := d) (v := v) (R := R) (lv := lv) (L := L) (lw := lw) (p := p) (by omega) hT ht hp10; rw [h30] at t; exact t)) rfl hT (fun v1 w1 hq => ?_)
      obtain ⟨rfl, g, ge, b, o, a, rfl⟩ := hq
      refine ⟨(EV4 v g ge b o), (pl_U R 12 a), rfl, rfl, ?_⟩
      refine im_r rfl rfl trivial rfl ?_
      have e : of_ans lw lv L p 7 = as_steps lw p 0 L := by
        unfold of_ans
        rw [if_neg (fun z => z hpp)]
        rfl
      rw [e]
      exact ⟨rfl, _, _, rfl, QZ_ev (QZ_0 v R) g ge b o a, rfl⟩
    · refine im_sw (tgt := 131) rfl (by decide) (by decide) (Or.inr ⟨_, rfl, by decide⟩) (by decide) ?_
      refine im_g 2 (y := (133, _, _, _)) rfl trivial ?_
      refine im_cM rfl rfl (show im_ct ro T d 188 [mr 0, .inl p] (MW v R) (fun r w => r = some (.inl (as_bar lw p 0 L)) ∧ QS v R w) from (by have t := m_barred (ro := ro) (T := T) (d := d) (v := v) (R := R) (lv := lv) (L := L) (lw := lw) (p := p) (by omega) hT ht hp10; rw [h30] at t; exact t)) rfl hT (fun v1 w1 hq => ?_)
      obtain ⟨rfl, g, ge, b, o, a, rfl⟩ := hq
      refine ⟨(EV4 v g ge b o), (pl_U R 12 a), rfl, rfl, ?_⟩
      refine im_b rfl rfl ⟨(by show im_ir (as_bar lw p 0 L); constructor <;> omega), trivial⟩ (fun br2 => ?_) (fun br2 => ?_)
      · replace br2 : as_bar lw p 0 L = 0 := br2
        refine im_g 1 (y := (144, _, _, _)) rfl trivial ?_
        refine im_r rfl rfl trivial rfl ?_
        have e : of_ans lw lv L p 8 = as_bar lw p 0 L := by
          unfold of_ans
          rw [if_neg (fun z => z hpp)]
          rfl
        rw [e]
        exact ⟨congrArg (fun z => some (Sum.inl z)) (show (_ : Int) = as_bar lw p 0 L by omega), _, _, rfl, QZ_ev (QZ_0 v R) g ge b o a, rfl⟩
      · replace br2 : ¬ as_bar lw p 0 L = 0 := br2
        refine im_g 2 (y := (144, _, _, _)) rfl trivial ?_
        refine im_r rfl rfl trivial rfl ?_
        have e : of_ans lw lv L p 8 = as_bar lw p 0 L := by
          unfold of_ans
          rw [if_neg (fun z => z hpp)]
          rfl
        rw [e]
        exact ⟨congrArg (fun z => some (Sum.inl z)) (show (_ : Int) = as_bar lw p 0 L by omega), _, _, rfl, QZ_ev (QZ_0 v R) g ge b o a, rfl⟩
    · refine im_sw (tgt := 145) rfl (by decide) (by decide) (Or.inr ⟨_, rfl, by decide⟩) (by decide) ?_
      refine im_g 2 (y := (147, _, _, _)) rfl trivial ?_
      refine im_cM rfl rfl (show im_ct ro T d 137 [mr 0, .inl p] (MW v R) (fun r w => r = some (.inl (st_sum lw lv L 10 p)) ∧ QS v R w) from (by have t := m_wayOf (ro := ro) (T := T) (d := d) (v := v) (R := R) (lv := lv) (L := L) (lw := lw) (p := p) (by omega) hT ht h30 hpp; exact t)) rfl hT (fun v1 w1 hq => ?_)
      obtain ⟨rfl, g, ge, b, o, a, rfl⟩ := hq
      refine ⟨(EV4 v g ge b o), (pl_U R 12 a), rfl, rfl, ?_⟩
      refine im_r rfl rfl trivial rfl ?_
      have e : of_ans lw lv L p 9 = st_sum lw lv L 10 p := by
        unfold of_ans
        rw [if_neg (fun z => z hpp)]
        rfl
      rw [e]
      exact ⟨rfl, _, _, rfl, QZ_ev (QZ_0 v R) g ge b o a, rfl⟩
    · refine im_sw (tgt := 151) rfl (by omega) (by decide) (Or.inl hk) (by unfold im_ts; rw [if_pos hk]; rfl) ?_
      refine im_g 1 (y := (154, _, _, _)) rfl trivial ?_
      refine im_r rfl rfl trivial rfl ?_
      have e : of_ans lw lv L p what = -1000 := by
        unfold of_ans
        rw [if_neg (by omega), if_neg (by omega), if_neg (by omega), if_neg (by omega), if_neg (by omega), if_neg (by omega), if_neg (by omega), if_neg (by omega), if_neg (by omega), if_neg (by omega), if_neg (by omega)]
      rw [e]
      exact ⟨rfl, v, R, rfl, QZ_0 v R, rfl⟩
  · have c5 : ¬ (0 ≤ p ∧ p ≤ R 2 110 - 1) := by
      intro hh
      rw [if_pos hh] at br1
      exact br1 (by decide)
    clear br1
    refine im_g 1 (y := (11, _, _, _)) rfl trivial ?_
    refine im_r rfl rfl trivial rfl ?_
    have e : of_ans lw lv L p what = -1000 := if_pos (by omega)
    rw [e]
    exact ⟨rfl, v, R, rfl, QZ_0 v R, rfl⟩
set_option maxHeartbeats 8000000 in
theorem m_count (hd : 2 ≤ d) (hT : T.length < 1000) (hr : KR (R 2) lv L) (hlo : LOK lv L) {what : Int} (hw : im_ir what) : im_ct ro T d 238 [mr 0, .inl what] (MW v R) (fun r w => r = some (.inl (cn_ans v (R 1) lv L what)) ∧ w = MW v R) := by
  obtain ⟨d, rfl⟩ : ∃ e, d = e + 1 := ⟨d - 1, by omega⟩
  have hgr := lk_grp hlo
  refine im_ct_of (own := 9) (ret := (some .int)) (code := ab_k_X9_count) (nL := 2) (L0 := [some (mr 0), some (.inl what)]) (n := 24) rfl rfl rfl rfl rfl rfl rfl rfl rfl ?_
  refine im_g 1 (y := (1, _, _, _)) rfl trivial ?_
  have hk : what = 0 ∨ what = 1 ∨ what = 2 ∨ what = 3 ∨ what = 4 ∨ what = 5 ∨ what = 6 ∨ what = 7 ∨ what = 8 ∨ what = 9 ∨ what = 10 ∨ what = 11 ∨ what = 12 ∨ what = 13 ∨ what = 14 ∨ what = 15 ∨ what = 16 ∨ what = 17 ∨ (what < 0 ∨ 17 < what) := by omega
  rcases hk with rfl | rfl | rfl | rfl | rfl | rfl | rfl | rfl | rfl | rfl | rfl | rfl | rfl | rfl | rfl | rfl | rfl | rfl | hk
  · refine im_sw (tgt := 88) rfl (by decide) (by decide) (Or.inr ⟨_, rfl, by decide⟩) (by decide) ?_
    refine im_g 4 (y := (95, _, _, _)) rfl ⟨(by omega), trivial⟩ ?_
    refine im_r rfl rfl trivial rfl ?_
    exact ⟨congrArg (fun z => some (Sum.inl z)) (hr.1.1), rfl⟩
  · refine im_sw (tgt := 96) rfl (by decide) (by decide) (Or.inr ⟨_, rfl, by decide⟩) (by decide) ?_
    refine im_g 4 (y := (103, _, _, _)) rfl ⟨(by omega), trivial⟩ ?_
    refine im_r rfl rfl trivial rfl ?_
    exact ⟨congrArg (fun z => some (Sum.inl z)) (hr.1.2.1), rfl⟩
  · refine im_sw (tgt := 104) rfl (by decide) (by decide) (Or.inr ⟨_, rfl, by decide⟩) (by decide) ?_
    refine im_g 1 (y := (105, _, _, _)) rfl trivial ?_
    refine im_cM rfl rfl (m_walking (v := v) (R := R) (by omega) hT (by rw [hr.1.2.1]; exact hgr) (fun g q1 q2 => by rw [hr.1.2.1] at q2; rw [(hr.2.2.2.1 g q1 q2).2.1]; have t := lk_siz hlo g; omega)) rfl hT (fun v1 w1 hq => ?_)
    obtain ⟨rfl, rfl⟩ := hq
    refine ⟨v, R, rfl, rfl, ?_⟩
    refine im_r rfl rfl trivial rfl ?_
    exact ⟨congrArg (fun z => some (Sum.inl z)) (show kp_wlk (R 2) (R 2 68).toNat = pl_sum (L 5) (lv 1).toNat by rw [hr.1.2.1]; exact wlk_sum hr _ (by omega)), rfl⟩
  · refine im_sw (tgt := 109) rfl (by decide) (by decide) (Or.inr ⟨_, rfl, by decide⟩) (by decide) ?_
    refine im_g 4 (y := (116, _, _, _)) rfl ⟨(by omega), trivial⟩ ?_
    refine im_r rfl rfl trivial rfl ?_
    exact ⟨congrArg (fun z => some (Sum.inl z)) (hr.1.2.2.1), rfl⟩
  · refine im_sw (tgt := 117) rfl (by decide) (by decide) (Or.inr ⟨_, rfl, by decide⟩) (by decide) ?_
    refine im_g 4 (y := (124, _, _, _)) rfl ⟨(by omega), trivial⟩ ?_
    refine im_r rfl rfl trivial rfl ?_
    exact ⟨congrArg (fun z => some (Sum.inl z)) (hr.1.2.2.2.1), rfl⟩
  · refine im_sw (tgt := 125) rfl (by decide) (by decide) (Or.inr ⟨_, rfl, by decide⟩) (by decide) ?_
    refine im_g 4 (y := (132, _, _, _)) rfl ⟨(by omega), trivial⟩ ?_
    refine im_r rfl rfl trivial rfl ?_
    exact ⟨congrArg (fun z => some (Sum.inl z)) (hr.1.2.2.2.2.1), rfl⟩
  · refine im_sw (tgt := 133) rfl (by decide) (by decide) (Or.inr ⟨_, rfl, by decide⟩) (by decide) ?_
    refine im_g 2 (y := (137, _, _, _)) rfl trivial ?_
    refine im_r rfl rfl trivial rfl ?_
    exact ⟨rfl, rfl⟩
  · refine im_sw (tgt := 138) rfl (by decide) (by decide) (Or.inr ⟨_, rfl, by decide⟩) (by decide) ?_
    refine im_g 2 (y := (142, _, _, _)) rfl trivial ?_
    refine im_r rfl rfl trivial rfl ?_
    exact ⟨rfl, rfl⟩
  · refine im_sw (tgt := 143) rfl (by decide) (by decide) (Or.inr ⟨_, rfl, by decide⟩) (by decide) ?_
    refine im_g 6 (y := (152, _, _, _)) rfl ⟨(by omega), trivial⟩ ?_
    refine im_r rfl rfl trivial rfl ?_
    exact ⟨rfl, rfl⟩
  · refine im_sw (tgt := 143) rfl (by decide) (by decide) (Or.inr ⟨_, rfl, by decide⟩) (by decide) ?_
    refine im_g 6 (y := (152, _, _, _)) rfl ⟨(by omega), trivial⟩ ?_
    refine im_r rfl rfl trivial rfl ?_
    exact ⟨rfl, rfl⟩
  · refine im_sw (tgt := 143) rfl (by decide) (by decide) (Or.inr ⟨_, rfl, by decide⟩) (by decide) ?_
    refine im_g 6 (y := (152, _, _, _)) rfl ⟨(by omega), trivial⟩ ?_
    refine im_r rfl rfl trivial rfl ?_
    exact ⟨rfl, rfl⟩
  · refine im_sw (tgt := 153) rfl (by decide) (by decide) (Or.inr ⟨_, rfl, by decide⟩) (by decide) ?_
    refine im_g 4 (y := (159, _, _, _)) rfl ⟨(by omega), trivial⟩ ?_
    refine im_r rfl rfl trivial rfl ?_
    exact ⟨rfl, rfl⟩
  · refine im_sw (tgt := 160) rfl (by decide) (by decide) (Or.inr ⟨_, rfl, by decide⟩) (by decide) ?_
    refine im_g 4 (y := (167, _, _, _)) rfl ⟨(by omega), trivial⟩ ?_
    refine im_r rfl rfl trivial rfl ?_
    exact ⟨rfl, rfl⟩
  · refine im_sw (tgt := 168) rfl (by decide) (by decide) (Or.inr ⟨_, rfl, by decide⟩) (by decide) ?_
    refine im_g 4 (y := (175, _, _, _)) rfl ⟨(by omega), trivial⟩ ?_
    refine im_r rfl rfl trivial rfl ?_
    exact ⟨congrArg (fun z => some (Sum.inl z)) (hr.1.2.2.2.2.2), rfl⟩
  · refine im_sw (tgt := 176) rfl (by decide) (by decide) (Or.inr ⟨_, rfl, by decide⟩) (by decide) ?_
    refine im_g 4 (y := (183, _, _, _)) rfl ⟨(by omega), trivial⟩ ?_
    refine im_r rfl rfl trivial rfl ?_
    exact ⟨congrArg (fun z => some (Sum.inl z)) (hr.2.1.1), rfl⟩
  · refine im_sw (tgt := 184) rfl (by decide) (by decide) (Or.inr ⟨_, rfl, by decide⟩) (by decide) ?_
    refine im_g 8 (y := (196, _, _, _)) rfl ⟨(by omega), trivial⟩ ?_
    refine im_r rfl rfl trivial rfl ?_
    exact ⟨congrArg (fun z => some (Sum.inl z)) (hr.2.1.2.1), rfl⟩
  · refine im_sw (tgt := 184) rfl (by decide) (by decide) (Or.inr ⟨_, rfl, by decide⟩) (by decide) ?_
    refine im_g 8 (y := (196, _, _, _)) rfl ⟨(by omega), trivial⟩ ?_
    refine im_r rfl rfl trivial rfl ?_
    exact ⟨congrArg (fun z => some (Sum.inl z)) (hr.2.1.2.2.1), rfl⟩
  · refine im_sw (tgt := 184) rfl (by decide) (by decide) (Or.inr ⟨_, rfl, by decide⟩) (by decide) ?_
    refine im_g 8 (y := (196, _, _, _)) rfl ⟨(by omega), trivial⟩ ?_
    refine im_r rfl rfl trivial rfl ?_
    exact ⟨congrArg (fun z => some (Sum.inl z)) (hr.2.1.2.2.2), rfl⟩
  · refine im_sw (tgt := 197) rfl (by omega) (by decide) (Or.inl hk) (by unfold im_ts; rw [if_pos hk]; rfl) ?_
    refine im_g 1 (y := (198, _, _, _)) rfl trivial ?_
    refine im_r rfl rfl trivial rfl ?_
    have e : cn_ans v (R 1) lv L what = -1 := by
      unfold cn_ans
      rw [if_neg (by omega), if_neg (by omega), if_neg (by omega), if_neg (by omega), if_neg (by omega), if_neg (by omega), if_neg (by omega), if_neg (by omega), if_neg (by omega), if_neg (by omega), if_neg (by omega), if_neg (by omega), if_neg (by omega), if_neg (by omega), if_neg (by omega), if_neg (by omega), if_neg (by omega), if_neg (by omega)]
    rw [e]
    exact ⟨rfl, rfl⟩
set_option maxHeartbeats 8000000 in
theorem m_drawn (hd : 2 ≤ d) (hT : T.length < 1000) (h49 : -1 ≤ v 49 ∧ v 49 ≤ 10) {k what : Int} (hk : im_ir k) (hw : im_ir what) : im_ct ro T d 237 [mr 0, .inl k, .inl what] (MW v R) (fun r w => r = some (.inl (dn_ans v (R 23) k what)) ∧ w = MW v R) := by
  obtain ⟨d, rfl⟩ : ∃ e, d = e + 1 := ⟨d - 1, by omega⟩
  refine im_ct_of (own := 9) (ret := (some .int)) (code := ab_k_X9_drawn) (nL := 3) (L0 := [some (mr 0), some (.inl k), some (.inl what)]) (n := 24) rfl rfl rfl rfl rfl rfl rfl rfl rfl ?_
  refine im_g 3 (y := (5, _, _, _)) rfl trivial ?_
  refine im_b rfl rfl ⟨(by omega), (by omega), trivial⟩ (fun br1 => ?_) (fun br1 => ?_)
  · have hne : ¬ v 49 = -1 := by omega
    refine im_g 1 (y := (11, _, _, _)) rfl trivial ?_
    have hk : what = 0 ∨ what = 1 ∨ what = 2 ∨ (what < 0 ∨ 2 < what) := by omega
    rcases hk with rfl | rfl | rfl | hk
    · refine im_sw (tgt := 36) rfl (by decide) (by decide) (Or.inr ⟨_, rfl, by decide⟩) (by decide) ?_
      refine im_g 6 (y := (44, _, _, _)) rfl trivial ?_
      refine im_call [] rfl rfl (m_lies (x := k) (a := 0) (b := v 49 - 1) (by omega) hT (by omega) (by omega) (by omega)) rfl rfl rfl (by decide) rfl (by decide) hT (fun v1 w1 hq => ?_)
      obtain ⟨rfl, rfl⟩ := hq
      refine ⟨_, _, MW v R, rfl, rfl, rfl, ?_⟩
      refine im_b rfl rfl ⟨(by split <;> decide), trivial⟩ (fun br2 => ?_) (fun br2 => ?_)
      · have c47 : ¬ (0 ≤ k ∧ k ≤ v 49 - 1) := by
          intro hh
          rw [if_pos hh] at br2
          exact absurd br2 (by decide)
        clear br2
        refine im_g 1 (y := (62, _, _, _)) rfl trivial ?_
        refine im_r rfl rfl trivial rfl ?_
        have e : dn_ans v (R 23) k 0 = -1 := by
          unfold dn_ans
          rw [if_neg hne]
          exact if_neg c47
        rw [e]
        exact ⟨rfl, rfl⟩
      · have c47 : 0 ≤ k ∧ k ≤ v 49 - 1 := by
          by_cases hh : 0 ≤ k ∧ k ≤ v 49 - 1
          · exact hh
          · rw [if_neg hh] at br2; exact absurd rfl br2
        clear br2
        refine im_g 7 (y := (62, _, _, _)) rfl ⟨(by omega), trivial⟩ ?_
        refine im_r rfl rfl trivial rfl ?_
        have e : dn_ans v (R 23) k 0 = R 23 (0 + k) := by
          unfold dn_ans
          rw [if_neg hne]
          exact if_pos c47
        rw [e]
        exact ⟨rfl, rfl⟩
    · refine im_sw (tgt := 63) rfl (by decide) (by decide) (Or.inr ⟨_, rfl, by decide⟩) (by decide) ?_
      refine im_g 6 (y := (71, _, _, _)) rfl trivial ?_
      refine im_call [] rfl rfl (m_lies (x := k) (a := 0) (b := v 49 - 1) (by omega) hT (by omega) (by omega) (by omega)) rfl rfl rfl (by decide) rfl (by decide) hT (fun v1 w1 hq => ?_)
      obtain ⟨rfl, rfl⟩ := hq
      refine ⟨_, _, MW v R, rfl, rfl, rfl, ?_⟩
      refine im_b rfl rfl ⟨(by split <;> decide), trivial⟩ (fun br3 => ?_) (fun br3 => ?_)
      · have c74 : ¬ (0 ≤ k ∧ k ≤ v 49 - 1) := by
          intro hh
          rw [if_pos hh] at br3
          exact absurd br3 (by decide)
        clear br3
        refine im_g 1 (y := (90, _, _, _)) rfl trivial ?_
        refine im_r rfl rfl trivial rfl ?_
        have e : dn_ans v (R 23) k 1 = -1 := by
          unfold dn_ans
          rw [if_neg hne]
          exact if_neg c74
        rw [e]
        exact ⟨rfl, rfl⟩
      · have c74 : 0 ≤ k ∧ k ≤ v 49 - 1 := by
          by_cases hh : 0 ≤ k ∧ k ≤ v 49 - 1
          · exact hh
          · rw [if_neg hh] at br3; exact absurd rfl br3
        clear br3
        refine im_g 7 (y := (90, _, _, _)) rfl ⟨(by omega), trivial⟩ ?_
        refine im_r rfl rfl trivial rfl ?_
        have e : dn_ans v (R 23) k 1 = R 23 (10 + k) := by
          unfold dn_ans
          rw [if_neg hne]
          exact if_pos c74
        rw [e]
        exact ⟨rfl, rfl⟩
    · refine im_sw (tgt := 91) rfl (by decide) (by decide) (Or.inr ⟨_, rfl, by decide⟩) (by decide) ?_
      refine im_g 2 (y := (95, _, _, _)) rfl trivial ?_
      refine im_r rfl rfl trivial rfl ?_
      have e : dn_ans v (R 23) k 2 = v 50 := by
        unfold dn_ans
        rw [if_neg hne]
        rfl
      rw [e]
      exact ⟨rfl, rfl⟩
    · refine im_sw (tgt := 96) rfl (by omega) (by decide) (Or.inl hk) (by unfold im_ts; rw [if_pos hk]; rfl) ?_
      refine im_g 1 (y := (97, _, _, _)) rfl trivial ?_
      refine im_r rfl rfl trivial rfl ?_
      have e : dn_ans v (R 23) k what = -1 := by
        unfold dn_ans
        rw [if_neg hne, if_neg (by omega), if_neg (by omega), if_neg (by omega)]
      rw [e]
      exact ⟨rfl, rfl⟩
  · refine im_g 1 (y := (9, _, _, _)) rfl trivial ?_
    refine im_r rfl rfl trivial rfl ?_
    have e : dn_ans v (R 23) k what = -1 := if_pos (by omega)
    rw [e]
    exact ⟨rfl, rfl⟩
set_option maxHeartbeats 8000000 in
theorem m_row (hd : 3 ≤ d) (hT : T.length < 1000) (hr : KR (R 2) lv L) (hlo : LOK lv L) {A : Int → Int} (hA : TA A R) (h13 : 0 ≤ v 13 ∧ v 13 ≤ 400) : im_ct ro T d 142 [mr 0] (MW v R) (fun r w => (v 13 = 0 ∧ r = some (.inl (-6)) ∧ w = MW (pl_U (pl_U v 13 0) 0 (-6)) (kp_ref (-6) R)) ∨ (¬ v 13 = 0 ∧ r = some (.inl ((rk A (v 13) lv L (rk_n (v 13))).1.1)) ∧ ∃ Rx, w = MW (pl_U (pl_U (pl_U (pl_U v 13 0) 6 (rk A (v 13) lv L (rk_n (v 13))).1.2) 34 0) 0 0) Rx ∧ (∀ j, j ≠ 2 → Rx j = R j) ∧ KR (Rx 2) (rk A (v 13) lv L (rk_n (v 13))).2.1 (rk A (v 13) lv L (rk_n (v 13))).2.2 ∧ ∀ i, 111 ≤ i → Rx 2 i = R 2 i)) := by
  obtain ⟨d, rfl⟩ : ∃ e, d = e + 1 := ⟨d - 1, by omega⟩
  refine im_ct_of (own := 9) (ret := (some .int)) (code := ab_k_X9_row) (nL := 8) (L0 := [some (mr 0), none, none, none, none, none, none, none]) (n := 24) rfl rfl rfl rfl rfl rfl rfl rfl rfl ?_
  refine im_g 7 (y := (11, _, _, _)) rfl trivial ?_
  refine im_b rfl rfl ⟨(by omega), trivial⟩ (fun br1 => ?_) (fun br1 => ?_)
  · refine im_g 6 (y := (27, _, _, _)) rfl ⟨(by omega), (by omega), (by omega), trivial⟩ ?_
    refine im_b rfl rfl ⟨(by have t := Int.tmod_eq_emod_of_nonneg (b := 3) h13.1; rw [t]; constructor <;> omega), trivial⟩ (fun br2 => ?_) (fun br2 => ?_)
    · refine im_g 4 (y := (40, _, _, _)) rfl trivial ?_
      have hrem : ¬ v 13 % 3 = 0 := by have t := br2; rw [Int.tmod_eq_emod_of_nonneg (by omega)] at t; omega
      have key : ∀ (j k : Nat), k + j = (v 13 / 3).toNat → ∀ (Rx : Nat → Int → Int) (x4 x5 x6 x7 : Option im_V), (∀ j, j ≠ 2 → Rx j = R j) → KR (Rx 2) (rk A (v 13) lv L k).2.1 (rk A (v 13) lv L k).2.2 → (∀ i, 111 ≤ i → Rx 2 i = R 2 i) → im_wp ro (ab_Ev ro ab_codes d) 9 (some .int) ab_k_X9_row 24 T (fun r w => (v 13 = 0 ∧ r = some (.inl (-6)) ∧ w = MW (pl_U (pl_U v 13 0) 0 (-6)) (kp_ref (-6) R)) ∨ (¬ v 13 = 0 ∧ r = some (.inl ((rk A (v 13) lv L (rk_n (v 13))).1.1)) ∧ ∃ Rx, w = MW (pl_U (pl_U (pl_U (pl_U v 13 0) 6 (rk A (v 13) lv L (rk_n (v 13))).1.2) 34 0) 0 0) Rx ∧ (∀ j, j ≠ 2 → Rx j = R j) ∧ KR (Rx 2) (rk A (v 13) lv L (rk_n (v 13))).2.1 (rk A (v 13) lv L (rk_n (v 13))).2.2 ∧ ∀ i, 111 ≤ i → Rx 2 i = R 2 i)) (40, [some (mr 0), some (.inl (v 13)), some (.inl (rk A (v 13) lv L k).1.1), some (.inl (3 * (k : Int))), x4, x5, x6, x7], [], MW (pl_U (pl_U v 13 0) 6 (1 + (rk A (v 13) lv L k).1.2)) Rx) := by
        intro j
        induction j with
        | zero =>
          intro k hk Rx x4 x5 x6 x7 hx hK hfr
          obtain rfl : k = (v 13 / 3).toNat := by omega
          obtain ⟨i1, i2, i3⟩ := rk_ok (A := A) (b := v 13) hlo (v 13 / 3).toNat
          refine im_g 4 (y := (44, _, _, _)) rfl trivial ?_
          refine im_bT rfl rfl ⟨(by omega), (by omega), trivial⟩ (by omega) ?_
          refine im_g 2 (y := (191, _, _, _)) rfl trivial ?_
          refine im_cM rfl rfl (m_settled (v := (pl_U (pl_U v 13 0) 6 (1 + (rk A (v 13) lv L (v 13 / 3).toNat).1.2))) (R := Rx) (x := (rk A (v 13) lv L (v 13 / 3).toNat).1.1) (by omega) hT) rfl hT (fun v1 w1 hq => ?_)
          obtain ⟨rfl, rfl⟩ := hq
          refine ⟨(pl_U (pl_U (pl_U (pl_U v 13 0) 6 (1 + (rk A (v 13) lv L (v 13 / 3).toNat).1.2)) 34 0) 0 0), Rx, rfl, rfl, ?_⟩
          refine im_r rfl rfl trivial rfl ?_
          have el := rk_last (A := A) (b := v 13) (by omega) (v := lv) (R := L) hrem
          refine Or.inr ⟨by omega, ?_, Rx, ?_, hx, ?_, hfr⟩
          · rw [el]
          · rw [el, Int.add_comm]
          · rw [el]; exact hK
        | succ j ih =>
          intro k hk Rx x4 x5 x6 x7 hx hK hfr
          obtain ⟨i1, i2, i3⟩ := rk_ok (A := A) (b := v 13) hlo k
          have e7 : Rx 7 = R 7 := hx 7 (by decide)
          have a0 : im_and (Rx 7 (3 * (k : Int))) 255 = A (3 * (k : Int)) := by rw [im_and255, e7]; exact (hA.1 _).symm
          have a1 : im_and (Rx 7 (3 * (k : Int) + 1)) 255 = A (3 * (k : Int) + 1) := by rw [im_and255, e7]; exact (hA.1 _).symm
          have a2 : im_and (Rx 7 (3 * (k : Int) + 2)) 255 = A (3 * (k : Int) + 2) := by rw [im_and255, e7]; exact (hA.1 _).symm
          have b0 := hA.1 (3 * (k : Int))
          have b1 := hA.1 (3 * (k : Int) + 1)
          have b2 := hA.1 (3 * (k : Int) + 2)
          have er : rk A (v 13) lv L (k + 1) = (((rk A (v 13) lv L k).1.1 + (ob_tape (3 * (k : Int)) (v 13) A (rk A (v 13) lv L k).2.1 (rk A (v 13) lv L k).2.2).1, (rk A (v 13) lv L k).1.2 + (1 - (ob_tape (3 * (k : Int)) (v 13) A (rk A (v 13) lv L k).2.1 (rk A (v 13) lv L k).2.2).1)), (ob_tape (3 * (k : Int)) (v 13) A (rk A (v 13) lv L k).2.1 (rk A (v 13) lv L k).2.2).2) := rfl
          have e110x := hK.1.1
          generalize rk A (v 13) lv L k = q at i1 i2 i3 hK er e110x ⊢
          have hq0 := lk_par i1
          refine im_g 4 (y := (44, _, _, _)) rfl trivial ?_
          refine im_bF rfl rfl ⟨(by omega), (by omega), trivial⟩ (by omega) ?_
          refine im_g 27 (y := (89, _, _, _)) rfl ⟨(by omega), (by omega), (by omega), trivial⟩ ?_
          refine im_eqs (y := (89, [some (mr 0), some (.inl (v 13)), some (.inl q.1.1), some (.inl (3 * (k : Int))), some (.inl (A (3 * (k : Int)) - 1)), some (.inl (A (3 * (k : Int) + 1))), some (.inl (A (3 * (k : Int) + 2))), x7], [], MW (pl_U (pl_U v 13 0) 6 (1 + q.1.2)) Rx)) (by rw [← a0, ← a1, ← a2]; rfl) ?_
          refine im_g 5 (y := (98, _, _, _)) rfl ⟨(by omega), trivial⟩ ?_
          refine im_b rfl rfl ⟨(by first | (rw [e110x]; constructor <;> omega) | omega), (by first | (rw [e110x]; constructor <;> omega) | omega), trivial⟩ (fun br1 => ?_) (fun br1 => ?_)
          · replace br1 : 10 ≤ q.2.1 0 := by rw [← e110x]; exact br1
            refine im_g 3 (y := (134, _, _, _)) rfl trivial ?_
            refine im_bT rfl rfl ⟨(by decide), trivial⟩ rfl ?_
            refine im_g 2 (y := (154, _, _, _)) rfl trivial ?_
            refine im_bT rfl rfl ⟨(by decide), trivial⟩ rfl ?_
            refine im_g 7 (y := (171, _, _, _)) rfl trivial ?_
            refine im_bT rfl rfl ⟨(by decide), trivial⟩ rfl ?_
            refine im_g 5 (y := (40, _, _, _)) rfl trivial ?_
            have eo := ob_no (at_ := 3 * (k : Int)) (b := v 13) (A := A) (v := q.2.1) (R := q.2.2) (by omega)
            rw [eo] at er
            have t := ih (k + 1) (by omega) Rx (some (.inl (A (3 * (k : Int)) - 1))) (some (.inl (A (3 * (k : Int) + 1)))) (some (.inl (A (3 * (k : Int) + 2)))) (some (.inl 0)) hx (by rw [er]; exact hK) hfr
            rw [er, show 3 * (((k + 1 : Nat)) : Int) = 3 * (k : Int) + 3 by omega] at t
            rw [show 1 + (q.1.2 + (1 - 0)) = 1 + q.1.2 + 1 by omega] at t
            exact t
          · replace br1 : ¬ 10 ≤ q.2.1 0 := by rw [← e110x]; exact br1
            refine im_g 2 (y := (105, _, _, _)) rfl trivial ?_
            refine im_b rfl rfl ⟨(by omega), (by omega), trivial⟩ (fun br2 => ?_) (fun br2 => ?_)
            · refine im_g 3 (y := (134, _, _, _)) rfl trivial ?_
              refine im_bT rfl rfl ⟨(by decide), trivial⟩ rfl ?_
              refine im_g 2 (y := (154, _, _, _)) rfl trivial ?_
              refine im_bT rfl rfl ⟨(by decide), trivial⟩ rfl ?_
              refine im_g 7 (y := (171, _, _, _)) rfl trivial ?_
              refine im_bT rfl rfl ⟨(by decide), trivial⟩ rfl ?_
              refine im_g 5 (y := (40, _, _, _)) rfl trivial ?_
              have eo := ob_no (at_ := 3 * (k : Int)) (b := v 13) (A := A) (v := q.2.1) (R := q.2.2) (by omega)
              rw [eo] at er
              have t := ih (k + 1) (by omega) Rx (some (.inl (A (3 * (k : Int)) - 1))) (some (.inl (A (3 * (k : Int) + 1)))) (some (.inl (A (3 * (k : Int) + 2)))) (some (.inl 0)) hx (by rw [er]; exact hK) hfr
              rw [er, show 3 * (((k + 1 : Nat)) : Int) = 3 * (k : Int) + 3 by omega] at t
              rw [show 1 + (q.1.2 + (1 - 0)) = 1 + q.1.2 + 1 by omega] at t
              exact t
            · refine im_g 7 (y := (119, _, _, _)) rfl trivial ?_
              refine im_cM rfl rfl (m_canParish (v := (pl_U (pl_U v 13 0) 6 (1 + q.1.2))) (R := Rx) (p := A (3 * (k : Int)) - 1) (c := 10 * A (3 * (k : Int) + 1) + A (3 * (k : Int) + 2)) (by omega) hT (by omega) (by omega) (by rw [e110x]; exact hq0)) rfl hT (fun v1 w1 hq => ?_)
              obtain ⟨rfl, rfl⟩ := hq
              refine ⟨(pl_U (pl_U v 13 0) 6 (1 + q.1.2)), Rx, rfl, rfl, ?_⟩
              rw [e110x]
              refine im_b rfl rfl ⟨(by split <;> decide), trivial⟩ (fun br3 => ?_) (fun br3 => ?_)
              · have c122 : ¬ ((-1 ≤ A (3 * (k : Int)) - 1 ∧ A (3 * (k : Int)) - 1 ≤ q.2.1 0 - 1) ∧ (0 ≤ 10 * A (3 * (k : Int) + 1) + A (3 * (k : Int) + 2) ∧ 10 * A (3 * (k : Int) + 1) + A (3 * (k : Int) + 2) ≤ 999)) := by
                  intro hh
                  rw [if_pos hh] at br3
                  exact absurd br3 (by decide)
                clear br3
                refine im_g 3 (y := (134, _, _, _)) rfl trivial ?_
                refine im_bT rfl rfl ⟨(by decide), trivial⟩ rfl ?_
                refine im_g 2 (y := (154, _, _, _)) rfl trivial ?_
                refine im_bT rfl rfl ⟨(by decide), trivial⟩ rfl ?_
                refine im_g 7 (y := (171, _, _, _)) rfl trivial ?_
                refine im_bT rfl rfl ⟨(by decide), trivial⟩ rfl ?_
                refine im_g 5 (y := (40, _, _, _)) rfl trivial ?_
                have eo := ob_no (at_ := 3 * (k : Int)) (b := v 13) (A := A) (v := q.2.1) (R := q.2.2) (by omega)
                rw [eo] at er
                have t := ih (k + 1) (by omega) Rx (some (.inl (A (3 * (k : Int)) - 1))) (some (.inl (A (3 * (k : Int) + 1)))) (some (.inl (A (3 * (k : Int) + 2)))) (some (.inl 0)) hx (by rw [er]; exact hK) hfr
                rw [er, show 3 * (((k + 1 : Nat)) : Int) = 3 * (k : Int) + 3 by omega] at t
                rw [show 1 + (q.1.2 + (1 - 0)) = 1 + q.1.2 + 1 by omega] at t
                exact t
              · have c122 : (-1 ≤ A (3 * (k : Int)) - 1 ∧ A (3 * (k : Int)) - 1 ≤ q.2.1 0 - 1) ∧ (0 ≤ 10 * A (3 * (k : Int) + 1) + A (3 * (k : Int) + 2) ∧ 10 * A (3 * (k : Int) + 1) + A (3 * (k : Int) + 2) ≤ 999) := by
                  by_cases hh : (-1 ≤ A (3 * (k : Int)) - 1 ∧ A (3 * (k : Int)) - 1 ≤ q.2.1 0 - 1) ∧ (0 ≤ 10 * A (3 * (k : Int) + 1) + A (3 * (k : Int) + 2) ∧ 10 * A (3 * (k : Int) + 1) + A (3 * (k : Int) + 2) ≤ 999)
                  · exact hh
                  · rw [if_neg hh] at br3; exact absurd rfl br3
                clear br3
                refine im_g 4 (y := (134, _, _, _)) rfl trivial ?_
                refine im_bF rfl rfl ⟨(by decide), trivial⟩ (by decide) ?_
                refine im_g 7 (y := (148, _, _, _)) rfl trivial ?_
                refine im_cM rfl rfl (m_addsParish (v := (pl_U (pl_U v 13 0) 6 (1 + q.1.2))) (R := Rx) (u := A (3 * (k : Int)) - 1) (c := 10 * A (3 * (k : Int) + 1) + A (3 * (k : Int) + 2)) (by omega) hT (by rw [e110x]; omega) (by rw [e110x]; omega)) rfl hT (fun v1 w1 hq => ?_)
                obtain ⟨rfl, rfl⟩ := hq
                refine ⟨(pl_U (pl_U v 13 0) 6 (1 + q.1.2)), (pl_U Rx 2 (kp_add (A (3 * (k : Int)) - 1) (10 * A (3 * (k : Int) + 1) + A (3 * (k : Int) + 2)) (Rx 2))), rfl, rfl, ?_⟩
                refine im_g 2 (y := (154, _, _, _)) rfl trivial ?_
                refine im_bF rfl rfl ⟨(by decide), trivial⟩ (by decide) ?_
                refine im_g 8 (y := (171, _, _, _)) rfl trivial ?_
                refine im_bF rfl rfl ⟨(by decide), trivial⟩ (by decide) ?_
                refine im_g 6 (y := (40, _, _, _)) rfl trivial ?_
                have hka := KR_add hK i1 (u := A (3 * (k : Int)) - 1) (c := 10 * A (3 * (k : Int) + 1) + A (3 * (k : Int) + 2)) (by omega) (by omega) (by omega)
                have eo := ob_yes (at_ := 3 * (k : Int)) (b := v 13) (A := A) (v := q.2.1) (R := q.2.2) hq0.1 (by omega) hka.1
                rw [eo] at er
                have t := ih (k + 1) (by omega) (pl_U Rx 2 (kp_add (A (3 * (k : Int)) - 1) (10 * A (3 * (k : Int) + 1) + A (3 * (k : Int) + 2)) (Rx 2))) (some (.inl (A (3 * (k : Int)) - 1))) (some (.inl (A (3 * (k : Int) + 1)))) (some (.inl (A (3 * (k : Int) + 2)))) (some (.inl 1)) (fun j hj => (if_neg hj).trans (hx j hj)) (by rw [er]; exact hka.2) (fun i hi => (kp_add_far (by rw [e110x]; omega) hi).trans (hfr i hi))
                rw [er, show 3 * (((k + 1 : Nat)) : Int) = 3 * (k : Int) + 3 by omega] at t
                rw [show 1 + (q.1.2 + (1 - 1)) = 1 + q.1.2 + 0 by omega] at t
                exact t
      have t := key (v 13 / 3).toNat 0 (by omega) R none none none none (fun _ _ => rfl) hr (fun _ _ => rfl)
      exact t
    · refine im_g 5 (y := (40, _, _, _)) rfl trivial ?_
      have hrem : v 13 % 3 = 0 := by have t := br2; rw [Int.tmod_eq_emod_of_nonneg (by omega)] at t; omega
      have key : ∀ (j k : Nat), k + j = (v 13 / 3).toNat → ∀ (Rx : Nat → Int → Int) (x4 x5 x6 x7 : Option im_V), (∀ j, j ≠ 2 → Rx j = R j) → KR (Rx 2) (rk A (v 13) lv L k).2.1 (rk A (v 13) lv L k).2.2 → (∀ i, 111 ≤ i → Rx 2 i = R 2 i) → im_wp ro (ab_Ev ro ab_codes d) 9 (some .int) ab_k_X9_row 24 T (fun r w => (v 13 = 0 ∧ r = some (.inl (-6)) ∧ w = MW (pl_U (pl_U v 13 0) 0 (-6)) (kp_ref (-6) R)) ∨ (¬ v 13 = 0 ∧ r = some (.inl ((rk A (v 13) lv L (rk_n (v 13))).1.1)) ∧ ∃ Rx, w = MW (pl_U (pl_U (pl_U (pl_U v 13 0) 6 (rk A (v 13) lv L (rk_n (v 13))).1.2) 34 0) 0 0) Rx ∧ (∀ j, j ≠ 2 → Rx j = R j) ∧ KR (Rx 2) (rk A (v 13) lv L (rk_n (v 13))).2.1 (rk A (v 13) lv L (rk_n (v 13))).2.2 ∧ ∀ i, 111 ≤ i → Rx 2 i = R 2 i)) (40, [some (mr 0), some (.inl (v 13)), some (.inl (rk A (v 13) lv L k).1.1), some (.inl (3 * (k : Int))), x4, x5, x6, x7], [], MW (pl_U (pl_U v 13 0) 6 (0 + (rk A (v 13) lv L k).1.2)) Rx) := by
        intro j
        induction j with
        | zero =>
          intro k hk Rx x4 x5 x6 x7 hx hK hfr
          obtain rfl : k = (v 13 / 3).toNat := by omega
          obtain ⟨i1, i2, i3⟩ := rk_ok (A := A) (b := v 13) hlo (v 13 / 3).toNat
          refine im_g 4 (y := (44, _, _, _)) rfl trivial ?_
          refine im_bT rfl rfl ⟨(by omega), (by omega), trivial⟩ (by omega) ?_
          refine im_g 2 (y := (191, _, _, _)) rfl trivial ?_
          refine im_cM rfl rfl (m_settled (v := (pl_U (pl_U v 13 0) 6 (0 + (rk A (v 13) lv L (v 13 / 3).toNat).1.2))) (R := Rx) (x := (rk A (v 13) lv L (v 13 / 3).toNat).1.1) (by omega) hT) rfl hT (fun v1 w1 hq => ?_)
          obtain ⟨rfl, rfl⟩ := hq
          refine ⟨(pl_U (pl_U (pl_U (pl_U v 13 0) 6 (0 + (rk A (v 13) lv L (v 13 / 3).toNat).1.2)) 34 0) 0 0), Rx, rfl, rfl, ?_⟩
          refine im_r rfl rfl trivial rfl ?_
          refine Or.inr ⟨by omega, ?_, Rx, ?_, hx, ?_, hfr⟩
          · rw [rk_full (by omega) hrem]
          · rw [rk_full (by omega) hrem, Int.zero_add]
          · rw [rk_full (by omega) hrem]; exact hK
        | succ j ih =>
          intro k hk Rx x4 x5 x6 x7 hx hK hfr
          obtain ⟨i1, i2, i3⟩ := rk_ok (A := A) (b := v 13) hlo k
          have e7 : Rx 7 = R 7 := hx 7 (by decide)
          have a0 : im_and (Rx 7 (3 * (k : Int))) 255 = A (3 * (k : Int)) := by rw [im_and255, e7]; exact (hA.1 _).symm
          have a1 : im_and (Rx 7 (3 * (k : Int) + 1)) 255 = A (3 * (k : Int) + 1) := by rw [im_and255, e7]; exact (hA.1 _).symm
          have a2 : im_and (Rx 7 (3 * (k : Int) + 2)) 255 = A (3 * (k : Int) + 2) := by rw [im_and255, e7]; exact (hA.1 _).symm
          have b0 := hA.1 (3 * (k : Int))
          have b1 := hA.1 (3 * (k : Int) + 1)
          have b2 := hA.1 (3 * (k : Int) + 2)
          have er : rk A (v 13) lv L (k + 1) = (((rk A (v 13) lv L k).1.1 + (ob_tape (3 * (k : Int)) (v 13) A (rk A (v 13) lv L k).2.1 (rk A (v 13) lv L k).2.2).1, (rk A (v 13) lv L k).1.2 + (1 - (ob_tape (3 * (k : Int)) (v 13) A (rk A (v 13) lv L k).2.1 (rk A (v 13) lv L k).2.2).1)), (ob_tape (3 * (k : Int)) (v 13) A (rk A (v 13) lv L k).2.1 (rk A (v 13) lv L k).2.2).2) := rfl
          have e110x := hK.1.1
          generalize rk A (v 13) lv L k = q at i1 i2 i3 hK er e110x ⊢
          have hq0 := lk_par i1
          refine im_g 4 (y := (44, _, _, _)) rfl trivial ?_
          refine im_bF rfl rfl ⟨(by omega), (by omega), trivial⟩ (by omega) ?_
          refine im_g 27 (y := (89, _, _, _)) rfl ⟨(by omega), (by omega), (by omega), trivial⟩ ?_
          refine im_eqs (y := (89, [some (mr 0), some (.inl (v 13)), some (.inl q.1.1), some (.inl (3 * (k : Int))), some (.inl (A (3 * (k : Int)) - 1)), some (.inl (A (3 * (k : Int) + 1))), some (.inl (A (3 * (k : Int) + 2))), x7], [], MW (pl_U (pl_U v 13 0) 6 (0 + q.1.2)) Rx)) (by rw [← a0, ← a1, ← a2]; rfl) ?_
          refine im_g 5 (y := (98, _, _, _)) rfl ⟨(by omega), trivial⟩ ?_
          refine im_b rfl rfl ⟨(by first | (rw [e110x]; constructor <;> omega) | omega), (by first | (rw [e110x]; constructor <;> omega) | omega), trivial⟩ (fun br1 => ?_) (fun br1 => ?_)
          · replace br1 : 10 ≤ q.2.1 0 := by rw [← e110x]; exact br1
            refine im_g 3 (y := (134, _, _, _)) rfl trivial ?_
            refine im_bT rfl rfl ⟨(by decide), trivial⟩ rfl ?_
            refine im_g 2 (y := (154, _, _, _)) rfl trivial ?_
            refine im_bT rfl rfl ⟨(by decide), trivial⟩ rfl ?_
            refine im_g 7 (y := (171, _, _, _)) rfl trivial ?_
            refine im_bT rfl rfl ⟨(by decide), trivial⟩ rfl ?_
            refine im_g 5 (y := (40, _, _, _)) rfl trivial ?_
            have eo := ob_no (at_ := 3 * (k : Int)) (b := v 13) (A := A) (v := q.2.1) (R := q.2.2) (by omega)
            rw [eo] at er
            have t := ih (k + 1) (by omega) Rx (some (.inl (A (3 * (k : Int)) - 1))) (some (.inl (A (3 * (k : Int) + 1)))) (some (.inl (A (3 * (k : Int) + 2)))) (some (.inl 0)) hx (by rw [er]; exact hK) hfr
            rw [er, show 3 * (((k + 1 : Nat)) : Int) = 3 * (k : Int) + 3 by omega] at t
            rw [show 0 + (q.1.2 + (1 - 0)) = 0 + q.1.2 + 1 by omega] at t
            exact t
          · replace br1 : ¬ 10 ≤ q.2.1 0 := by rw [← e110x]; exact br1
            refine im_g 2 (y := (105, _, _, _)) rfl trivial ?_
            refine im_b rfl rfl ⟨(by omega), (by omega), trivial⟩ (fun br2 => ?_) (fun br2 => ?_)
            · refine im_g 3 (y := (134, _, _, _)) rfl trivial ?_
              refine im_bT rfl rfl ⟨(by decide), trivial⟩ rfl ?_
              refine im_g 2 (y := (154, _, _, _)) rfl trivial ?_
              refine im_bT rfl rfl ⟨(by decide), trivial⟩ rfl ?_
              refine im_g 7 (y := (171, _, _, _)) rfl trivial ?_
              refine im_bT rfl rfl ⟨(by decide), trivial⟩ rfl ?_
              refine im_g 5 (y := (40, _, _, _)) rfl trivial ?_
              have eo := ob_no (at_ := 3 * (k : Int)) (b := v 13) (A := A) (v := q.2.1) (R := q.2.2) (by omega)
              rw [eo] at er
              have t := ih (k + 1) (by omega) Rx (some (.inl (A (3 * (k : Int)) - 1))) (some (.inl (A (3 * (k : Int) + 1)))) (some (.inl (A (3 * (k : Int) + 2)))) (some (.inl 0)) hx (by rw [er]; exact hK) hfr
              rw [er, show 3 * (((k + 1 : Nat)) : Int) = 3 * (k : Int) + 3 by omega] at t
              rw [show 0 + (q.1.2 + (1 - 0)) = 0 + q.1.2 + 1 by omega] at t
              exact t
            · refine im_g 7 (y := (119, _, _, _)) rfl trivial ?_
              refine im_cM rfl rfl (m_canParish (v := (pl_U (pl_U v 13 0) 6 (0 + q.1.2))) (R := Rx) (p := A (3 * (k : Int)) - 1) (c := 10 * A (3 * (k : Int) + 1) + A (3 * (k : Int) + 2)) (by omega) hT (by omega) (by omega) (by rw [e110x]; exact hq0)) rfl hT (fun v1 w1 hq => ?_)
              obtain ⟨rfl, rfl⟩ := hq
              refine ⟨(pl_U (pl_U v 13 0) 6 (0 + q.1.2)), Rx, rfl, rfl, ?_⟩
              rw [e110x]
              refine im_b rfl rfl ⟨(by split <;> decide), trivial⟩ (fun br3 => ?_) (fun br3 => ?_)
              · have c122 : ¬ ((-1 ≤ A (3 * (k : Int)) - 1 ∧ A (3 * (k : Int)) - 1 ≤ q.2.1 0 - 1) ∧ (0 ≤ 10 * A (3 * (k : Int) + 1) + A (3 * (k : Int) + 2) ∧ 10 * A (3 * (k : Int) + 1) + A (3 * (k : Int) + 2) ≤ 999)) := by
                  intro hh
                  rw [if_pos hh] at br3
                  exact absurd br3 (by decide)
                clear br3
                refine im_g 3 (y := (134, _, _, _)) rfl trivial ?_
                refine im_bT rfl rfl ⟨(by decide), trivial⟩ rfl ?_
                refine im_g 2 (y := (154, _, _, _)) rfl trivial ?_
                refine im_bT rfl rfl ⟨(by decide), trivial⟩ rfl ?_
                refine im_g 7 (y := (171, _, _, _)) rfl trivial ?_
                refine im_bT rfl rfl ⟨(by decide), trivial⟩ rfl ?_
                refine im_g 5 (y := (40, _, _, _)) rfl trivial ?_
                have eo := ob_no (at_ := 3 * (k : Int)) (b := v 13) (A := A) (v := q.2.1) (R := q.2.2) (by omega)
                rw [eo] at er
                have t := ih (k + 1) (by omega) Rx (some (.inl (A (3 * (k : Int)) - 1))) (some (.inl (A (3 * (k : Int) + 1)))) (some (.inl (A (3 * (k : Int) + 2)))) (some (.inl 0)) hx (by rw [er]; exact hK) hfr
                rw [er, show 3 * (((k + 1 : Nat)) : Int) = 3 * (k : Int) + 3 by omega] at t
                rw [show 0 + (q.1.2 + (1 - 0)) = 0 + q.1.2 + 1 by omega] at t
                exact t
              · have c122 : (-1 ≤ A (3 * (k : Int)) - 1 ∧ A (3 * (k : Int)) - 1 ≤ q.2.1 0 - 1) ∧ (0 ≤ 10 * A (3 * (k : Int) + 1) + A (3 * (k : Int) + 2) ∧ 10 * A (3 * (k : Int) + 1) + A (3 * (k : Int) + 2) ≤ 999) := by
                  by_cases hh : (-1 ≤ A (3 * (k : Int)) - 1 ∧ A (3 * (k : Int)) - 1 ≤ q.2.1 0 - 1) ∧ (0 ≤ 10 * A (3 * (k : Int) + 1) + A (3 * (k : Int) + 2) ∧ 10 * A (3 * (k : Int) + 1) + A (3 * (k : Int) + 2) ≤ 999)
                  · exact hh
                  · rw [if_neg hh] at br3; exact absurd rfl br3
                clear br3
                refine im_g 4 (y := (134, _, _, _)) rfl trivial ?_
                refine im_bF rfl rfl ⟨(by decide), trivial⟩ (by decide) ?_
                refine im_g 7 (y := (148, _, _, _)) rfl trivial ?_
                refine im_cM rfl rfl (m_addsParish (v := (pl_U (pl_U v 13 0) 6 (0 + q.1.2))) (R := Rx) (u := A (3 * (k : Int)) - 1) (c := 10 * A (3 * (k : Int) + 1) + A (3 * (k : Int) + 2)) (by omega) hT (by rw [e110x]; omega) (by rw [e110x]; omega)) rfl hT (fun v1 w1 hq => ?_)
                obtain ⟨rfl, rfl⟩ := hq
                refine ⟨(pl_U (pl_U v 13 0) 6 (0 + q.1.2)), (pl_U Rx 2 (kp_add (A (3 * (k : Int)) - 1) (10 * A (3 * (k : Int) + 1) + A (3 * (k : Int) + 2)) (Rx 2))), rfl, rfl, ?_⟩
                refine im_g 2 (y := (154, _, _, _)) rfl trivial ?_
                refine im_bF rfl rfl ⟨(by decide), trivial⟩ (by decide) ?_
                refine im_g 8 (y := (171, _, _, _)) rfl trivial ?_
                refine im_bF rfl rfl ⟨(by decide), trivial⟩ (by decide) ?_
                refine im_g 6 (y := (40, _, _, _)) rfl trivial ?_
                have hka := KR_add hK i1 (u := A (3 * (k : Int)) - 1) (c := 10 * A (3 * (k : Int) + 1) + A (3 * (k : Int) + 2)) (by omega) (by omega) (by omega)
                have eo := ob_yes (at_ := 3 * (k : Int)) (b := v 13) (A := A) (v := q.2.1) (R := q.2.2) hq0.1 (by omega) hka.1
                rw [eo] at er
                have t := ih (k + 1) (by omega) (pl_U Rx 2 (kp_add (A (3 * (k : Int)) - 1) (10 * A (3 * (k : Int) + 1) + A (3 * (k : Int) + 2)) (Rx 2))) (some (.inl (A (3 * (k : Int)) - 1))) (some (.inl (A (3 * (k : Int) + 1)))) (some (.inl (A (3 * (k : Int) + 2)))) (some (.inl 1)) (fun j hj => (if_neg hj).trans (hx j hj)) (by rw [er]; exact hka.2) (fun i hi => (kp_add_far (by rw [e110x]; omega) hi).trans (hfr i hi))
                rw [er, show 3 * (((k + 1 : Nat)) : Int) = 3 * (k : Int) + 3 by omega] at t
                rw [show 0 + (q.1.2 + (1 - 1)) = 0 + q.1.2 + 0 by omega] at t
                exact t
      have t := key (v 13 / 3).toNat 0 (by omega) R none none none none (fun _ _ => rfl) hr (fun _ _ => rfl)
      exact t
  · refine im_g 2 (y := (17, _, _, _)) rfl trivial ?_
    refine im_cM rfl rfl (m_refuses (v := pl_U v 13 0) (R := R) (x := -6) (by omega) hT (by decide)) rfl hT (fun v1 w1 hq => ?_)
    obtain ⟨rfl, rfl⟩ := hq
    refine ⟨(pl_U (pl_U v 13 0) 0 (-6)), (kp_ref (-6) R), rfl, rfl, ?_⟩
    refine im_r rfl rfl trivial rfl ?_
    exact Or.inl ⟨by omega, rfl, rfl⟩
end Rr2
