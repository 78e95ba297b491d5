/-! the reference: years -/
theorem hp_0 {p c : Int} {v : Nat → Int} {R : Nat → Int → Int} (hp : 0 ≤ p ∧ p < v 0 ∧ p < 10) (hc : 0 ≤ R 2 p ∧ R 2 p ≤ 999) : (pl_growBy p 1 v R).2 = pl_U R 2 (im_up (R 2) p (min 999 (R 2 p + 1))) ∨ (R 2 p = 999 ∧ (pl_growBy p 1 v R).2 = R) := by
  unfold pl_growBy
  rw [if_neg (by omega), if_neg (fun z => z hp)]
  by_cases e : R 2 p = 999
  · rw [if_pos (by omega)]
    exact Or.inr ⟨e, rfl⟩
  · rw [if_neg (by omega), show min 999 (R 2 p + 1) = R 2 p + 1 by omega]
    exact Or.inl rfl
theorem hp_1 {p c : Int} {v : Nat → Int} {R : Nat → Int → Int} (hp : 0 ≤ p ∧ p < v 0 ∧ p < 10) (hc : 0 ≤ R 2 p ∧ R 2 p ≤ 999) : (pl_growBy p (-1) v R).2 = pl_U R 2 (im_up (R 2) p (max 0 (R 2 p - 1))) ∨ (R 2 p = 0 ∧ (pl_growBy p (-1) v R).2 = R) := by
  unfold pl_growBy
  rw [if_neg (by omega), if_neg (fun z => z hp)]
  by_cases e : R 2 p = 0
  · rw [if_pos (by omega)]
    exact Or.inr ⟨e, rfl⟩
  · rw [if_neg (by omega), show max 0 (R 2 p - 1) = R 2 p + -1 by omega]
    exact Or.inl rfl
theorem KR_cnt_same {K : Int → Int} {lv : Nat → Int} {L : Nat → Int → Int} (h : KR K lv L) {p : Int} (hp : 0 ≤ p ∧ p < 10) {x : Int} (hx : L 2 p = x) : KR (im_up K (0 + p) x) lv L := by
  have e : im_up K (0 + p) x = K := by
    rw [← hx, ← (h.2.2.1 p hp.1 hp.2).2.2.1]
    exact im_up_id _ _
  rw [e]
  exact h
section Ry
variable {ro : ab_R} {T : List im_T} {d : Nat} {v : Nat → Int} {R : Nat → Int → Int} {lv : Nat → Int} {L : Nat → Int → Int} {lw : Option im_T}
set_option maxHeartbeats 8000000 in
theorem m_happens (hd : 86 ≤ d) (hT : T.length < 1000) (ht : TLS v R lv L lw) (h30 : v 30 = 0) {p what : Int} (hp : 0 ≤ p ∧ p < lv 0) (hwh : 0 ≤ what ∧ what ≤ 2) : im_ct ro T d 235 [mr 0, .inl p, .inl what] (MW v R) (fun r w => r = none ∧ ∃ K', QA v R K' w ∧ KR K' (dd_act lw what p lv L).1 (dd_act lw what p lv L).2 ∧ KFr (R 2) K') := by
  obtain ⟨d, rfl⟩ : ∃ e, d = e + 1 := ⟨d - 1, by omega⟩
  have hpar := lk_par ht.2.1
  have hp10 : 0 ≤ p ∧ p < 10 := by omega
  have hcn := lk_cnt ht.2.1 p
  have ec := (ht.1.2.2.1 p hp10.1 hp10.2).2.2.1
  have hk : what = 0 ∨ what = 1 ∨ what = 2 := by omega
  rcases hk with rfl | rfl | rfl
  · refine im_ct_of (own := 9) (ret := none) (code := ab_k_X9_happens) (nL := 3) (L0 := [some (mr 0), some (.inl p), some (.inl 0)]) (n := 24) rfl rfl rfl rfl rfl rfl rfl rfl rfl ?_
    refine im_g 1 (y := (1, _, _, _)) rfl trivial ?_
    refine im_bF rfl rfl ⟨(by omega), trivial⟩ (by omega) ?_
    refine im_g 14 (y := (24, _, _, _)) rfl ⟨(by omega), trivial⟩ ?_
    refine im_call [] rfl rfl (m_lesser (a := 999) (b := R 2 (0 + p) + 1) (by omega) hT (by decide) (by omega)) rfl rfl rfl (by decide) rfl (by decide) hT (fun v1 w1 hq => ?_)
    obtain ⟨rfl, rfl⟩ := hq
    refine ⟨_, _, MW v R, rfl, rfl, rfl, ?_⟩
    refine im_g 3 (y := (30, _, _, _)) rfl ⟨(by omega), trivial⟩ ?_
    refine im_bT rfl rfl ⟨(by omega), (by omega), trivial⟩ (by omega) ?_
    refine im_g 2 (y := (57, _, _, _)) rfl trivial ?_
    refine im_bT rfl rfl ⟨(by omega), (by omega), trivial⟩ (by omega) ?_
    refine im_r rfl rfl trivial rfl ?_
    have ea : dd_act lw 0 p lv L = (lv, (pl_growBy p 1 lv L).2) := rfl
    rw [ea]
    refine ⟨rfl, (im_up (R 2) (0 + p) (min 999 (R 2 (0 + p) + 1))), ⟨v 22, v 23, v 24, v 25, R 12, rfl⟩, ?_, fun i hi => im_up_ne _ _ (by omega)⟩
    rcases hp_0 (v := lv) (R := L) (p := p) (c := 0) ⟨hp.1, hp.2, by omega⟩ hcn with e | ⟨e0, e⟩
    · show KR _ lv (pl_growBy p 1 lv L).2
      rw [e, ec]
      exact KR_cnt ht.1 hp10 _
    · show KR _ lv (pl_growBy p 1 lv L).2
      rw [e, ec, e0]
      exact KR_cnt_same ht.1 hp10 e0
  · refine im_ct_of (own := 9) (ret := none) (code := ab_k_X9_happens) (nL := 3) (L0 := [some (mr 0), some (.inl p), some (.inl 1)]) (n := 24) rfl rfl rfl rfl rfl rfl rfl rfl rfl ?_
    refine im_g 1 (y := (1, _, _, _)) rfl trivial ?_
    refine im_bT rfl rfl ⟨(by omega), trivial⟩ (by omega) ?_
    refine im_g 2 (y := (30, _, _, _)) rfl trivial ?_
    refine im_bF rfl rfl ⟨(by omega), (by omega), trivial⟩ (by omega) ?_
    refine im_g 14 (y := (51, _, _, _)) rfl ⟨(by omega), trivial⟩ ?_
    refine im_call [] rfl rfl (m_greater (a := 0) (b := R 2 (0 + p) - 1) (by omega) hT (by decide) (by omega)) rfl rfl rfl (by decide) rfl (by decide) hT (fun v1 w1 hq => ?_)
    obtain ⟨rfl, rfl⟩ := hq
    refine ⟨_, _, MW v R, rfl, rfl, rfl, ?_⟩
    refine im_g 3 (y := (57, _, _, _)) rfl ⟨(by omega), trivial⟩ ?_
    refine im_bT rfl rfl ⟨(by omega), (by omega), trivial⟩ (by omega) ?_
    refine im_r rfl rfl trivial rfl ?_
    have ea : dd_act lw 1 p lv L = (lv, (pl_growBy p (-1) lv L).2) := rfl
    rw [ea]
    refine ⟨rfl, (im_up (R 2) (0 + p) (max 0 (R 2 (0 + p) - 1))), ⟨v 22, v 23, v 24, v 25, R 12, rfl⟩, ?_, fun i hi => im_up_ne _ _ (by omega)⟩
    rcases hp_1 (v := lv) (R := L) (p := p) (c := 0) ⟨hp.1, hp.2, by omega⟩ hcn with e | ⟨e0, e⟩
    · show KR _ lv (pl_growBy p (-1) lv L).2
      rw [e, ec]
      exact KR_cnt ht.1 hp10 _
    · show KR _ lv (pl_growBy p (-1) lv L).2
      rw [e, ec, e0]
      exact KR_cnt_same ht.1 hp10 e0
  · refine im_ct_of (own := 9) (ret := none) (code := ab_k_X9_happens) (nL := 3) (L0 := [some (mr 0), some (.inl p), some (.inl 2)]) (n := 24) rfl rfl rfl rfl rfl rfl rfl rfl rfl ?_
    refine im_g 1 (y := (1, _, _, _)) rfl trivial ?_
    refine im_bT rfl rfl ⟨(by omega), trivial⟩ (by omega) ?_
    refine im_g 2 (y := (30, _, _, _)) rfl trivial ?_
    refine im_bT rfl rfl ⟨(by omega), (by omega), trivial⟩ (by omega) ?_
    refine im_g 2 (y := (57, _, _, _)) rfl trivial ?_
    refine im_bF rfl rfl ⟨(by omega), (by omega), trivial⟩ (by omega) ?_
    refine im_g 2 (y := (62, _, _, _)) rfl trivial ?_
    refine im_cM rfl rfl (m_canR (v := v) (R := R) (by omega) hT ht h30 hp) rfl hT (fun v1 w1 hq => ?_)
    obtain ⟨rfl, g1, ge1, b1, o1, a1, rfl⟩ := hq
    refine ⟨(EV4 v g1 ge1 b1 o1), (pl_U R 12 a1), rfl, rfl, ?_⟩
    refine im_b rfl rfl ⟨(by split <;> decide), trivial⟩ (fun br1 => ?_) (fun br1 => ?_)
    · have c65 : ¬ ((as_bar lw p 0 L = 0 ∧ ((as_over lw p 0 L - as_stay lw p 0 L) = 0 ∨ lv 1 < 16))) := by
        intro hh
        rw [if_pos hh] at br1
        exact absurd br1 (by decide)
      clear br1
      refine im_r rfl rfl trivial rfl ?_
      have ea : dd_act lw 2 p lv L = (pl_send lw p lv L).2 := rfl
      rw [ea]
      rw [pl_send_no ⟨hp.1, hp.2, by omega⟩ c65]
      exact ⟨rfl, R 2, ⟨g1, ge1, b1, o1, a1, rfl⟩, ht.1, fun _ _ => rfl⟩
    · have c65 : (as_bar lw p 0 L = 0 ∧ ((as_over lw p 0 L - as_stay lw p 0 L) = 0 ∨ lv 1 < 16)) := by
        by_cases hh : (as_bar lw p 0 L = 0 ∧ ((as_over lw p 0 L - as_stay lw p 0 L) = 0 ∨ lv 1 < 16))
        · exact hh
        · rw [if_neg hh] at br1; exact absurd rfl br1
      clear br1
      refine im_g 2 (y := (70, _, _, _)) rfl trivial ?_
      refine im_cM rfl rfl (m_reckons (v := (EV4 v g1 ge1 b1 o1)) (R := (pl_U R 12 a1)) (by omega) hT (TLS_q ht _ _ _ _ _) h30 hp c65.1 c65.2) rfl hT (fun v1 w1 hq => ?_)
      obtain ⟨rfl, K', ⟨g2, ge2, b2, o2, a2, rfl⟩, hK2, hfr2⟩ := hq
      refine ⟨(EV4 (EV4 v g1 ge1 b1 o1) g2 ge2 b2 o2), (pl_U (pl_U (pl_U R 12 a1) 12 a2) 2 K'), rfl, rfl, ?_⟩
      refine im_g 1 (y := (74, _, _, _)) rfl trivial ?_
      refine im_r rfl rfl trivial rfl ?_
      have ea : dd_act lw 2 p lv L = (pl_send lw p lv L).2 := rfl
      rw [ea]
      exact ⟨rfl, K', ⟨g2, ge2, b2, o2, a2, rfl⟩, hK2, hfr2⟩
/-- scratch of years aside -/
def QY (v : Nat → Int) (R : Nat → Int → Int) (v' : Nat → Int) (R' : Nat → Int → Int) : Prop := (∀ j, j ≠ 22 → j ≠ 23 → j ≠ 24 → j ≠ 25 → j ≠ 31 → j ≠ 0 → j ≠ 49 → j ≠ 50 → j ≠ 51 → v' j = v j) ∧ ∀ j, j ≠ 2 → j ≠ 5 → j ≠ 12 → j ≠ 16 → j ≠ 17 → j ≠ 23 → R' j = R j
theorem QY_0 (v : Nat → Int) (R : Nat → Int → Int) : QY v R v R := ⟨fun _ _ _ _ _ _ _ _ _ _ => rfl, fun _ _ _ _ _ _ _ => rfl⟩
theorem QY_v {v : Nat → Int} {R : Nat → Int → Int} {v' : Nat → Int} {R' : Nat → Int → Int} (h : QY v R v' R') {k : Nat} (hk : k = 0 ∨ k = 22 ∨ k = 23 ∨ k = 24 ∨ k = 25 ∨ k = 31 ∨ k = 49 ∨ k = 50 ∨ k = 51) (x : Int) : QY v R (pl_U v' k x) R' := by
  refine ⟨fun j q1 q2 q3 q4 q5 q6 q7 q8 q9 => ?_, h.2⟩
  have e : j ≠ k := by omega
  exact (if_neg e).trans (h.1 j q1 q2 q3 q4 q5 q6 q7 q8 q9)
theorem QY_R {v : Nat → Int} {R : Nat → Int → Int} {v' : Nat → Int} {R' : Nat → Int → Int} (h : QY v R v' R') {k : Nat} (hk : k = 2 ∨ k = 5 ∨ k = 12 ∨ k = 16 ∨ k = 17 ∨ k = 23) (f : Int → Int) : QY v R v' (pl_U R' k f) := by
  refine ⟨h.1, fun j q1 q2 q3 q4 q5 q6 => ?_⟩
  have e : j ≠ k := by omega
  exact (if_neg e).trans (h.2 j q1 q2 q3 q4 q5 q6)
theorem QY_ev {v : Nat → Int} {R : Nat → Int → Int} {v' : Nat → Int} {R' : Nat → Int → Int} (h : QY v R v' R') (g ge b o : Int) (a : Int → Int) : QY v R (EV4 v' g ge b o) (pl_U R' 12 a) := QY_R (QY_v (QY_v (QY_v (QY_v h (by omega) g) (by omega) ge) (by omega) b) (by omega) o) (by omega) a
theorem DDI_n {v0 : Nat → Int} {m n : Int} {z : dd_S} (h : DDI v0 m z) (hm : m ≤ n) : DDI v0 n z := by
  obtain ⟨h1, h2, h3, h4, h5⟩ := h
  exact ⟨h1, h2, h3, h4, by omega⟩
theorem dd_act_0 (lw : Option im_T) (what p : Int) {v : Nat → Int} {R : Nat → Int → Int} {x : Int} (h : v 0 = x) : (dd_act lw what p v R).1 0 = x := by
  unfold dd_act
  split
  · exact h
  split
  · exact h
  · exact (pl_send_75 lw p v R).2.2.trans h
set_option maxHeartbeats 8000000 in
theorem m_years (hd : 88 ≤ d) (hT : T.length < 1000) (ht : TLS v R lv L lw) (hd9 : L 7 0 ≤ 999) (h30 : v 30 = 0) {seed n : Int} (hs : im_ir seed) (hn : im_ir n) : im_ct ro T d 236 [mr 0, .inl seed, .inl n] (MW v R) (fun r w => ((seed < 0 ∨ 1000000 < seed ∨ n < 1 ∨ 100 < n) ∧ r = some (.inl (-1)) ∧ w = MW (pl_U v 0 (-1)) (kp_ref (-1) R)) ∨ (¬ (seed < 0 ∨ 1000000 < seed ∨ n < 1 ∨ 100 < n) ∧ lv 0 = 0 ∧ r = some (.inl (-3)) ∧ w = MW (pl_U v 0 (-3)) (kp_ref (-3) R)) ∨ (¬ (seed < 0 ∨ 1000000 < seed ∨ n < 1 ∨ 100 < n) ∧ ¬ lv 0 = 0 ∧ r = some (.inl ((dd lw n.toNat (lv, L, seed, 0)).2.2.2)) ∧ ∃ v1 R1, w = MW v1 R1 ∧ QY v R v1 R1 ∧ (∀ i, 0 ≤ i → R1 2 i = R 2 i) ∧ v1 0 = 0 ∧ v1 49 = lv 0 ∧ v1 50 = pl_sum ((dd lw n.toNat (lv, L, seed, 0)).2.1 5) ((dd lw n.toNat (lv, L, seed, 0)).1 1).toNat ∧ ∀ p, 0 ≤ p → p < 10 → R1 23 (0 + p) = (dd lw n.toNat (lv, L, seed, 0)).2.1 2 p ∧ R1 23 (10 + p) = (dd lw n.toNat (lv, L, seed, 0)).2.1 3 p)) := by
  obtain ⟨d, rfl⟩ : ∃ e, d = e + 1 := ⟨d - 1, by omega⟩
  have hpar := lk_par ht.2.1
  have e110 : R 2 110 = lv 0 := ht.1.1.1
  refine im_ct_of (own := 9) (ret := (some .int)) (code := ab_k_X9_years) (nL := 5) (L0 := [some (mr 0), some (.inl seed), some (.inl n), none, none]) (n := 24) rfl rfl rfl rfl rfl rfl rfl rfl rfl ?_
  refine im_g 3 (y := (4, _, _, _)) rfl trivial ?_
  refine im_call [] rfl rfl (m_lies (x := seed) (a := 0) (b := 1000000) (by omega) hT (by omega) (by omega) (by omega)) rfl rfl rfl (by decide) rfl (by decide) hT (fun v1 w1 hq => ?_)
  obtain ⟨rfl, rfl⟩ := hq
  refine ⟨_, _, MW v R, rfl, rfl, rfl, ?_⟩
  refine im_b rfl rfl ⟨(by split <;> decide), trivial⟩ (fun br1 => ?_) (fun br1 => ?_)
  · have c7 : ¬ (0 ≤ seed ∧ seed ≤ 1000000) := by
      intro hh
      rw [if_pos hh] at br1
      exact absurd br1 (by decide)
    clear br1
    refine im_g 2 (y := (22, _, _, _)) rfl trivial ?_
    refine im_cM rfl rfl (m_refuses (v := v) (R := R) (x := -1) (by omega) hT (by decide)) rfl hT (fun v1 w1 hq => ?_)
    obtain ⟨rfl, rfl⟩ := hq
    refine ⟨(pl_U v 0 (-1)), (kp_ref (-1) R), rfl, rfl, ?_⟩
    refine im_r rfl rfl trivial rfl ?_
    exact Or.inl ⟨by omega, rfl, rfl⟩
  · have c7 : 0 ≤ seed ∧ seed ≤ 1000000 := by
      by_cases hh : 0 ≤ seed ∧ seed ≤ 1000000
      · exact hh
      · rw [if_neg hh] at br1; exact absurd rfl br1
    clear br1
    refine im_g 3 (y := (14, _, _, _)) rfl trivial ?_
    refine im_call [] rfl rfl (m_lies (x := n) (a := 1) (b := 100) (by omega) hT (by omega) (by omega) (by omega)) rfl rfl rfl (by decide) rfl (by decide) hT (fun v1 w1 hq => ?_)
    obtain ⟨rfl, rfl⟩ := hq
    refine ⟨_, _, MW v R, rfl, rfl, rfl, ?_⟩
    refine im_b rfl rfl ⟨(by omega), trivial⟩ (fun br2 => ?_) (fun br2 => ?_)
    · have c17 : 1 ≤ n ∧ n ≤ 100 := by
        by_cases hh : 1 ≤ n ∧ n ≤ 100
        · exact hh
        · rw [if_neg hh] at br2; exact absurd rfl br2
      clear br2
      refine im_g 4 (y := (33, _, _, _)) rfl ⟨(by omega), trivial⟩ ?_
      refine im_b rfl rfl ⟨(by omega), trivial⟩ (fun br3 => ?_) (fun br3 => ?_)
      · have hgood : ¬ (seed < 0 ∨ 1000000 < seed ∨ n < 1 ∨ 100 < n) := by omega
        have hne : ¬ lv 0 = 0 := by omega
        refine im_g 11 (y := (61, _, _, _)) rfl ⟨(by omega), trivial⟩ ?_
        refine im_cM rfl rfl (m_laysAside (v := pl_U (pl_U v 51 seed) 49 (R 2 110)) (R := R) (k := 0) (by omega) hT (by decide)) rfl hT (fun v1 w1 hq => ?_)
        obtain ⟨rfl, rfl⟩ := hq
        refine ⟨(pl_U (pl_U v 51 seed) 49 (R 2 110)), (pl_U R 5 (im_cpy (R 2) (R 5) 0 (71 * 0) 71)), rfl, rfl, ?_⟩
        refine im_g 5 (y := (71, _, _, _)) rfl trivial ?_
        have fin : ∀ (z : dd_S) (vx : Nat → Int) (Rx : Nat → Int → Int) (x3 x4 : Option im_V), (dd lw n.toNat (lv, L, seed, 0)) = z → DDI lv n z → z.1 0 = lv 0 → QY v R vx Rx → Rx 5 = (im_cpy (R 2) (R 5) 0 (71 * 0) 71) → KR (Rx 2) z.1 z.2.1 → KFr (R 2) (Rx 2) → vx 31 = z.2.2.2 → vx 49 = lv 0 → im_wp ro (ab_Ev ro ab_codes d) 9 (some .int) ab_k_X9_years 24 T (fun r w => ((seed < 0 ∨ 1000000 < seed ∨ n < 1 ∨ 100 < n) ∧ r = some (.inl (-1)) ∧ w = MW (pl_U v 0 (-1)) (kp_ref (-1) R)) ∨ (¬ (seed < 0 ∨ 1000000 < seed ∨ n < 1 ∨ 100 < n) ∧ lv 0 = 0 ∧ r = some (.inl (-3)) ∧ w = MW (pl_U v 0 (-3)) (kp_ref (-3) R)) ∨ (¬ (seed < 0 ∨ 1000000 < seed ∨ n < 1 ∨ 100 < n) ∧ ¬ lv 0 = 0 ∧ r = some (.inl ((dd lw n.toNat (lv, L, seed, 0)).2.2.2)) ∧ ∃ v1 R1, w = MW v1 R1 ∧ QY v R v1 R1 ∧ (∀ i, 0 ≤ i → R1 2 i = R 2 i) ∧ v1 0 = 0 ∧ v1 49 = lv 0 ∧ v1 50 = pl_sum ((dd lw n.toNat (lv, L, seed, 0)).2.1 5) ((dd lw n.toNat (lv, L, seed, 0)).1 1).toNat ∧ ∀ p, 0 ≤ p → p < 10 → R1 23 (0 + p) = (dd lw n.toNat (lv, L, seed, 0)).2.1 2 p ∧ R1 23 (10 + p) = (dd lw n.toNat (lv, L, seed, 0)).2.1 3 p)) (121, [some (mr 0), some (.inl seed), some (.inl n), x3, x4], [], MW vx Rx) := by
          intro z vx Rx x3 x4 ez hI hz0 hq h5 hK hfr h31 h49
          obtain ⟨i1, i2, i3, i4, i5⟩ := hI
          have hg1 := lk_grp i1
          have cp : ∀ (j k : Nat), k + j = 71 → ∀ (Rx : Nat → Int → Int) (x4 : Option im_V), QY v R vx Rx → Rx 5 = (im_cpy (R 2) (R 5) 0 (71 * 0) 71) → KR (Rx 2) z.1 z.2.1 → KFr (R 2) (Rx 2) → (∀ i : Int, 0 ≤ i → i < (k : Int) → Rx 23 i = Rx 2 i) → im_wp ro (ab_Ev ro ab_codes d) 9 (some .int) ab_k_X9_years 24 T (fun r w => ((seed < 0 ∨ 1000000 < seed ∨ n < 1 ∨ 100 < n) ∧ r = some (.inl (-1)) ∧ w = MW (pl_U v 0 (-1)) (kp_ref (-1) R)) ∨ (¬ (seed < 0 ∨ 1000000 < seed ∨ n < 1 ∨ 100 < n) ∧ lv 0 = 0 ∧ r = some (.inl (-3)) ∧ w = MW (pl_U v 0 (-3)) (kp_ref (-3) R)) ∨ (¬ (seed < 0 ∨ 1000000 < seed ∨ n < 1 ∨ 100 < n) ∧ ¬ lv 0 = 0 ∧ r = some (.inl ((dd lw n.toNat (lv, L, seed, 0)).2.2.2)) ∧ ∃ v1 R1, w = MW v1 R1 ∧ QY v R v1 R1 ∧ (∀ i, 0 ≤ i → R1 2 i = R 2 i) ∧ v1 0 = 0 ∧ v1 49 = lv 0 ∧ v1 50 = pl_sum ((dd lw n.toNat (lv, L, seed, 0)).2.1 5) ((dd lw n.toNat (lv, L, seed, 0)).1 1).toNat ∧ ∀ p, 0 ≤ p → p < 10 → R1 23 (0 + p) = (dd lw n.toNat (lv, L, seed, 0)).2.1 2 p ∧ R1 23 (10 + p) = (dd lw n.toNat (lv, L, seed, 0)).2.1 3 p)) (123, [some (mr 0), some (.inl seed), some (.inl n), some (.inl (k : Int)), x4], [], MW vx Rx) := by
            intro j
            induction j with
            | zero =>
              intro k hk Rx x4 hq h5 hK hfr h23
              obtain rfl : k = 71 := by omega
              have hq0 := hq
              refine im_g 2 (y := (126, _, _, _)) rfl trivial ?_
              refine im_bT rfl rfl ⟨(by omega), (by omega), trivial⟩ (by omega) ?_
              refine im_g 2 (y := (149, _, _, _)) rfl trivial ?_
              refine im_cM rfl rfl (m_walking (v := vx) (R := Rx) (by omega) hT (by rw [hK.1.2.1]; exact hg1) (fun g q1 q2 => by rw [hK.1.2.1] at q2; rw [(hK.2.2.2.1 g q1 q2).2.1]; have t := lk_siz i1 g; omega)) rfl hT (fun v1 w1 hq => ?_)
              obtain ⟨rfl, rfl⟩ := hq
              refine ⟨vx, Rx, rfl, rfl, ?_⟩
              have hq := hq0
              rw [show kp_wlk (Rx 2) (Rx 2 68).toNat = pl_sum (z.2.1 5) (z.1 1).toNat by rw [hK.1.2.1]; exact wlk_sum hK _ (by omega)]
              refine im_g 3 (y := (157, _, _, _)) rfl trivial ?_
              refine im_cM rfl rfl (m_takesBack (v := (pl_U vx 50 (pl_sum (z.2.1 5) (z.1 1).toNat))) (R := Rx) (k := 0) (by omega) hT (by decide)) rfl hT (fun v1 w1 hq => ?_)
              obtain ⟨rfl, rfl⟩ := hq
              refine ⟨(pl_U vx 50 (pl_sum (z.2.1 5) (z.1 1).toNat)), (pl_U Rx 2 (im_cpy (Rx 5) (Rx 2) (71 * 0) 0 71)), rfl, rfl, ?_⟩
              have hq := hq0
              refine im_g 3 (y := (165, _, _, _)) rfl trivial ?_
              refine im_cM rfl rfl (m_good (v := (pl_U vx 50 (pl_sum (z.2.1 5) (z.1 1).toNat))) (R := pl_U Rx 2 (im_cpy (Rx 5) (Rx 2) (71 * 0) 0 71)) (x := vx 31) (by omega) hT) rfl hT (fun v1 w1 hq => ?_)
              obtain ⟨rfl, rfl⟩ := hq
              refine ⟨(pl_U (pl_U vx 50 (pl_sum (z.2.1 5) (z.1 1).toNat)) 0 0), (pl_U Rx 2 (im_cpy (Rx 5) (Rx 2) (71 * 0) 0 71)), rfl, rfl, ?_⟩
              have hq := hq0
              refine im_r rfl rfl trivial rfl ?_
              refine Or.inr (Or.inr ⟨hgood, hne, ?_, _, _, rfl, QY_v (QY_v (QY_R hq (by omega) _) (by omega) _) (by omega) _, fun i hi => by show im_cpy (Rx 5) (Rx 2) (71 * 0) 0 71 i = R 2 i; rw [h5]; exact back_nn hfr i hi, rfl, h49, by rw [ez]; rfl, fun p q1 q2 => ?_⟩)
              · rw [ez]; exact congrArg (fun z => some (Sum.inl z)) h31
              · rw [ez]
                have t := hK.2.2.1 p q1 q2
                exact ⟨(h23 _ (by omega) (by omega)).trans t.2.2.1, (h23 _ (by omega) (by omega)).trans t.2.2.2⟩
            | succ j ih =>
              intro k hk Rx x4 hq h5 hK hfr h23
              refine im_g 2 (y := (126, _, _, _)) rfl trivial ?_
              refine im_bF rfl rfl ⟨(by omega), (by omega), trivial⟩ (by omega) ?_
              refine im_g 10 (y := (123, _, _, _)) rfl ⟨(by omega), (by omega), trivial⟩ ?_
              exact ih (k + 1) (by omega) (pl_U Rx 23 (im_up (Rx 23) (k : Int) (Rx 2 (k : Int)))) x4 (QY_R hq (by omega) _) h5 hK hfr (fun i q1 q2 => by show im_up (Rx 23) (k : Int) (Rx 2 (k : Int)) i = Rx 2 i; unfold im_up; split; (rename_i e; rw [e]); exact h23 i q1 (by omega))
          refine im_g 2 (y := (123, _, _, _)) rfl trivial ?_
          exact cp 71 0 rfl Rx x4 hq h5 hK hfr (fun i q1 q2 => absurd q1 (by omega))
        have key : ∀ (j m : Nat), (m : Int) + j = n → ∀ (z : dd_S) (vx : Nat → Int) (Rx : Nat → Int → Int) (x4 : Option im_V), (dd lw n.toNat (lv, L, seed, 0)) = dd lw j z → DDI lv m z → z.1 0 = lv 0 → QY v R vx Rx → Rx 5 = (im_cpy (R 2) (R 5) 0 (71 * 0) 71) → KR (Rx 2) z.1 z.2.1 → KFr (R 2) (Rx 2) → vx 31 = z.2.2.2 → vx 49 = lv 0 → vx 51 = z.2.2.1 → im_wp ro (ab_Ev ro ab_codes d) 9 (some .int) ab_k_X9_years 24 T (fun r w => ((seed < 0 ∨ 1000000 < seed ∨ n < 1 ∨ 100 < n) ∧ r = some (.inl (-1)) ∧ w = MW (pl_U v 0 (-1)) (kp_ref (-1) R)) ∨ (¬ (seed < 0 ∨ 1000000 < seed ∨ n < 1 ∨ 100 < n) ∧ lv 0 = 0 ∧ r = some (.inl (-3)) ∧ w = MW (pl_U v 0 (-3)) (kp_ref (-3) R)) ∨ (¬ (seed < 0 ∨ 1000000 < seed ∨ n < 1 ∨ 100 < n) ∧ ¬ lv 0 = 0 ∧ r = some (.inl ((dd lw n.toNat (lv, L, seed, 0)).2.2.2)) ∧ ∃ v1 R1, w = MW v1 R1 ∧ QY v R v1 R1 ∧ (∀ i, 0 ≤ i → R1 2 i = R 2 i) ∧ v1 0 = 0 ∧ v1 49 = lv 0 ∧ v1 50 = pl_sum ((dd lw n.toNat (lv, L, seed, 0)).2.1 5) ((dd lw n.toNat (lv, L, seed, 0)).1 1).toNat ∧ ∀ p, 0 ≤ p → p < 10 → R1 23 (0 + p) = (dd lw n.toNat (lv, L, seed, 0)).2.1 2 p ∧ R1 23 (10 + p) = (dd lw n.toNat (lv, L, seed, 0)).2.1 3 p)) (71, [some (mr 0), some (.inl seed), some (.inl n), some (.inl ((m : Int))), x4], [], MW vx Rx) := by
          intro j
          induction j with
          | zero =>
            intro m hm z vx Rx x4 ez hI hz0 hq h5 hK hfr h31 h49 h51
            refine im_g 2 (y := (73, _, _, _)) rfl trivial ?_
            refine im_bT rfl rfl ⟨(by omega), (by omega), trivial⟩ (by omega) ?_
            exact fin z vx Rx _ _ ez (DDI_n hI (by omega)) hz0 hq h5 hK hfr h31 h49
          | succ j ih =>
            intro m hm z vx Rx x4 ez hI hz0 hq h5 hK hfr h31 h49 h51
            have e70 : Rx 2 70 = z.2.1 7 0 := hK.2.1.1
            have hI0 := hI
            obtain ⟨i1, i2, i3, i4, i5⟩ := hI0
            have hv0 := lk_par i1
            have htr := lk_trm i1
            have h30x : vx 30 = 0 := (hq.1 30 (by decide) (by decide) (by decide) (by decide) (by decide) (by decide) (by decide) (by decide) (by decide)).trans h30
            have htl : TLS vx Rx z.1 z.2.1 lw := ⟨hK, i1, by omega, KT_fr ht.2.2.2.1 hfr, by rw [i3]; exact KLW_fr ht.2.2.2.2.1 hfr, Or.inl h30x⟩
            have r1 := dr_next_b (s := z.2.2.1)
            have r2 := dr_next_b (s := dr_next z.2.2.1)
            have hq0 := hq
            refine im_g 2 (y := (73, _, _, _)) rfl trivial ?_
            refine im_bF rfl rfl ⟨(by omega), (by omega), trivial⟩ (by omega) ?_
            refine im_g 5 (y := (86, _, _, _)) rfl ⟨(by omega), trivial⟩ ?_
            refine im_b rfl rfl ⟨(by first | (rw [e70]; constructor <;> omega) | omega), (by first | (rw [e70]; constructor <;> omega) | omega), trivial⟩ (fun br1 => ?_) (fun br1 => ?_)
            · replace br1 : ¬ z.2.1 7 0 < 999 := by rw [← e70]; omega
              have ez2 := ez
              rw [show dd lw (j + 1) z = z from if_neg (by omega)] at ez2
              exact fin z vx Rx _ _ ez2 (DDI_n hI (by omega)) hz0 hq h5 hK hfr h31 h49
            · replace br1 : z.2.1 7 0 < 999 := by rw [← e70]; omega
              refine im_g 3 (y := (94, _, _, _)) rfl trivial ?_
              refine im_cM rfl rfl (m_draws (v := vx) (R := Rx) (k := vx 49) (by omega) hT (by rw [h49]; omega) (by rw [h51]; omega)) rfl hT (fun v1 w1 hq => ?_)
              obtain ⟨rfl, rfl⟩ := hq
              refine ⟨(pl_U vx 51 (dr_next (vx 51))), Rx, rfl, rfl, ?_⟩
              have hq := hq0
              refine im_eqs (y := (97, [some (mr 0), some (.inl seed), some (.inl n), some (.inl ((m : Int))), x4], [.inl (dr_next z.2.2.1 % z.1 0)], MW (pl_U vx 51 (dr_next z.2.2.1)) Rx)) (by rw [h49, h51, hz0]; rfl) ?_
              refine im_g 5 (y := (104, _, _, _)) rfl trivial ?_
              refine im_cM rfl rfl (m_draws (v := pl_U vx 51 (dr_next z.2.2.1)) (R := Rx) (k := 3) (by omega) hT (by decide) r1) rfl hT (fun v1 w1 hq => ?_)
              obtain ⟨rfl, rfl⟩ := hq
              refine ⟨(pl_U (pl_U vx 51 (dr_next z.2.2.1)) 51 (dr_next (dr_next z.2.2.1))), Rx, rfl, rfl, ?_⟩
              have hq := hq0
              have q2 := Int.emod_nonneg (dr_next z.2.2.1) (show z.1 0 ≠ 0 by omega)
              have q3 := Int.emod_lt_of_pos (dr_next z.2.2.1) (show 0 < z.1 0 by omega)
              refine im_cM rfl rfl (m_happens (v := (pl_U (pl_U vx 51 (dr_next z.2.2.1)) 51 (dr_next (dr_next z.2.2.1)))) (R := Rx) (lw := lw) (by omega) hT (show TLS (pl_U (pl_U vx 51 (dr_next z.2.2.1)) 51 (dr_next (dr_next z.2.2.1))) Rx z.1 z.2.1 lw from htl) h30x (p := (dr_next z.2.2.1 % z.1 0)) (what := (dr_next (dr_next z.2.2.1) % 3)) ⟨q2, q3⟩ (by omega)) rfl hT (fun v1 w1 hq => ?_)
              obtain ⟨rfl, K', ⟨g1, ge1, b1, o1, a1, rfl⟩, hK2, hfr2⟩ := hq
              refine ⟨(EV4 (pl_U (pl_U vx 51 (dr_next z.2.2.1)) 51 (dr_next (dr_next z.2.2.1))) g1 ge1 b1 o1), (pl_U (pl_U Rx 12 a1) 2 K'), rfl, rfl, ?_⟩
              have hq := hq0
              obtain ⟨a1_, a2_, a3_⟩ := dd_act_ok lw (dr_next (dr_next z.2.2.1) % 3) (dr_next z.2.2.1 % z.1 0) i1
              refine im_g 1 (y := (111, _, _, _)) rfl trivial ?_
              refine im_cM rfl rfl (m_day (v := EV4 (pl_U (pl_U vx 51 (dr_next z.2.2.1)) 51 (dr_next (dr_next z.2.2.1))) g1 ge1 b1 o1) (R := pl_U (pl_U Rx 12 a1) 2 K') (by omega) hT hK2 a1_) rfl hT (fun v1 w1 hq => ?_)
              obtain ⟨rfl, K2', c', rfl, hK3, hfr3, hc⟩ := hq
              refine ⟨(pl_U (EV4 (pl_U (pl_U vx 51 (dr_next z.2.2.1)) 51 (dr_next (dr_next z.2.2.1))) g1 ge1 b1 o1) 31 c'), (pl_U (pl_U (pl_U Rx 12 a1) 2 K') 2 K2'), rfl, rfl, ?_⟩
              have hq := hq0
              refine im_g 3 (y := (71, _, _, _)) rfl trivial ?_
              have ez2 := ez
              rw [show dd lw (j + 1) z = dd lw j (dd_1 lw z) from if_pos ⟨by omega, by omega⟩] at ez2
              exact ih (m + 1) (by omega) (dd_1 lw z) (pl_U (EV4 (pl_U (pl_U vx 51 (dr_next z.2.2.1)) 51 (dr_next (dr_next z.2.2.1))) g1 ge1 b1 o1) 31 c') (pl_U (pl_U (pl_U Rx 12 a1) 2 K') 2 K2') _ ez2 (DDI_1 hI (by omega)) ((pl_day_0 a1_).trans (dd_act_0 lw _ _ hz0)) (QY_v (QY_R (QY_R (QY_ev (QY_v (QY_v hq (by omega) _) (by omega) _) _ _ _ _ _) (by omega) _) (by omega) _) (by omega) _) h5 hK3 (fun i hi => (hfr3 i hi).trans ((hfr2 i hi).trans (hfr i hi))) (by have t : c' - vx 31 = (pl_day (dd_act lw (dr_next (dr_next z.2.2.1) % 3) (dr_next z.2.2.1 % z.1 0) z.1 z.2.1).1 (dd_act lw (dr_next (dr_next z.2.2.1) % 3) (dr_next z.2.2.1 % z.1 0) z.1 z.2.1).2).2.1 6 := hc; show c' = z.2.2.2 + (pl_day (dd_act lw (dr_next (dr_next z.2.2.1) % 3) (dr_next z.2.2.1 % z.1 0) z.1 z.2.1).1 (dd_act lw (dr_next (dr_next z.2.2.1) % 3) (dr_next z.2.2.1 % z.1 0) z.1 z.2.1).2).2.1 6; omega) h49 rfl
        exact key n.toNat 0 (by omega) (lv, L, seed, 0) (pl_U (pl_U (pl_U v 51 seed) 49 (R 2 110)) 31 0) (pl_U R 5 (im_cpy (R 2) (R 5) 0 (71 * 0) 71)) none rfl ⟨ht.2.1, hd9, rfl, by dsimp only; omega, ⟨Int.le_refl _, Int.le_refl _⟩⟩ rfl (QY_R (QY_v (QY_v (QY_v (QY_0 v R) (by omega) _) (by omega) _) (by omega) _) (by omega) _) rfl ht.1 (fun _ _ => rfl) rfl e110 rfl
      · refine im_g 2 (y := (39, _, _, _)) rfl trivial ?_
        refine im_cM rfl rfl (m_refuses (v := v) (R := R) (x := -3) (by omega) hT (by decide)) rfl hT (fun v1 w1 hq => ?_)
        obtain ⟨rfl, rfl⟩ := hq
        refine ⟨(pl_U v 0 (-3)), (kp_ref (-3) R), rfl, rfl, ?_⟩
        refine im_r rfl rfl trivial rfl ?_
        exact Or.inr (Or.inl ⟨by omega, by omega, rfl, rfl⟩)
    · have c17 : ¬ (1 ≤ n ∧ n ≤ 100) := by
        intro hh
        rw [if_pos hh] at br2
        exact br2 (by decide)
      clear br2
      refine im_g 2 (y := (22, _, _, _)) rfl trivial ?_
      refine im_cM rfl rfl (m_refuses (v := v) (R := R) (x := -1) (by omega) hT (by decide)) rfl hT (fun v1 w1 hq => ?_)
      obtain ⟨rfl, rfl⟩ := hq
      refine ⟨(pl_U v 0 (-1)), (kp_ref (-1) R), rfl, rfl, ?_⟩
      refine im_r rfl rfl trivial rfl ?_
      exact Or.inl ⟨by omega, rfl, rfl⟩
end Ry
