/-! the reference's acts that are kept: a day, to reckon -/
section Ac
variable {ro : ab_R} {T : List im_T} {d : Nat} {v : Nat → Int} {R : Nat → Int → Int} {lv : Nat → Int} {L : Nat → Int → Int} {lw : Option im_T}
set_option maxHeartbeats 8000000 in
theorem m_passK (hd : 4 ≤ d) (hT : T.length < 1000) (hr : KR (R 2) lv L) (hlo : LOK lv L) (h34 : 0 ≤ v 34 ∧ v 34 ≤ 16) (h70 : L 7 0 ≤ 999) : im_ct ro T d 199 [mr 0] (MW v R) (fun r w => (L 7 0 = 999 ∧ r = some (.inl (-3)) ∧ w = MW v R) ∨ (L 7 0 < 999 ∧ r = some (.inl (pl_day lv L).1) ∧ ∃ K' c', w = MW (pl_U (pl_U v 34 (kp_un v + 1)) 31 c') (pl_U (pl_U R 14 (kp_keep 1 v R)) 2 K') ∧ KR K' (pl_day lv L).2.1 (pl_day lv L).2.2 ∧ KFr (R 2) K')) := by
  obtain ⟨d, rfl⟩ : ∃ e, d = e + 1 := ⟨d - 1, by omega⟩
  have e70 := hr.2.1.1
  have hlt := (lk_trm hlo).1
  refine im_ct_of (own := 9) (ret := (some .int)) (code := ab_k_X9_passesKept) (nL := 1) (L0 := [some (mr 0)]) (n := 24) rfl rfl rfl rfl rfl rfl rfl rfl rfl ?_
  refine im_g 5 (y := (10, _, _, _)) rfl ⟨(by omega), trivial⟩ ?_
  refine im_b rfl rfl ⟨(by omega), (by omega), trivial⟩ (fun br1 => ?_) (fun br1 => ?_)
  · refine im_g 2 (y := (18, _, _, _)) rfl trivial ?_
    refine im_cM rfl rfl (m_keeps (v := v) (R := R) (what := 1) (by omega) hT h34) rfl hT (fun v1 w1 hq => ?_)
    obtain ⟨rfl, rfl⟩ := hq
    refine ⟨(pl_U v 34 (kp_un v + 1)), (pl_U R 14 (kp_keep 1 v R)), rfl, rfl, ?_⟩
    refine im_g 1 (y := (22, _, _, _)) rfl trivial ?_
    refine im_cM rfl rfl (m_day (v := (pl_U v 34 (kp_un v + 1))) (R := (pl_U R 14 (kp_keep 1 v R))) (lv := lv) (L := L) (by omega) hT hr hlo) rfl hT (fun v1 w1 hq => ?_)
    obtain ⟨rfl, K', c', rfl, hK1, hK2, -⟩ := hq
    refine ⟨(pl_U (pl_U v 34 (kp_un v + 1)) 31 c'), (pl_U (pl_U R 14 (kp_keep 1 v R)) 2 K'), rfl, rfl, ?_⟩
    refine im_r rfl rfl trivial rfl ?_
    exact Or.inr ⟨by omega, rfl, K', c', rfl, hK1, hK2⟩
  · refine im_g 1 (y := (15, _, _, _)) rfl trivial ?_
    refine im_r rfl rfl trivial rfl ?_
    exact Or.inl ⟨by omega, rfl, rfl⟩
set_option maxHeartbeats 8000000 in
theorem m_reckK (hd : 84 ≤ d) (hT : T.length < 1000) (ht : TLS v R lv L lw) (h30 : v 30 = 0) (h34 : 0 ≤ v 34 ∧ v 34 ≤ 16) {p : Int} (hp : im_ir p) : im_ct ro T d 198 [mr 0, .inl p] (MW v R) (fun r w => ((pl_send lw p lv L).1 < 0 ∧ r = some (.inl ((pl_send lw p lv L).1)) ∧ QS v R w) ∨ (0 ≤ (pl_send lw p lv L).1 ∧ r = some (.inl ((pl_send lw p lv L).1)) ∧ ∃ g ge b o a K', w = MW (EV4 (pl_U v 34 (kp_un v + 1)) g ge b o) (pl_U (pl_U (pl_U R 14 (kp_keep 0 v R)) 12 a) 2 K') ∧ KR K' (pl_send lw p lv L).2.1 (pl_send lw p lv L).2.2 ∧ KFr (R 2) K')) := by
  obtain ⟨d, rfl⟩ : ∃ e, d = e + 1 := ⟨d - 1, by omega⟩
  have hpar := lk_par ht.2.1
  have hgr := lk_grp ht.2.1
  have e110 := ht.1.1.1
  have e68 := ht.1.1.2.1
  refine im_ct_of (own := 9) (ret := (some .int)) (code := ab_k_X9_reckonsKept) (nL := 2) (L0 := [some (mr 0), some (.inl p)]) (n := 24) rfl rfl rfl rfl rfl rfl rfl rfl rfl ?_
  refine im_g 2 (y := (2, _, _, _)) rfl trivial ?_
  refine im_cM rfl rfl (m_isParish (v := v) (R := R) (p := p) (by omega) hT hp (by omega)) rfl hT (fun v1 w1 hq => ?_)
  obtain ⟨rfl, rfl⟩ := hq
  refine ⟨v, R, rfl, rfl, ?_⟩
  refine im_b rfl rfl ⟨(by omega), trivial⟩ (fun br1 => ?_) (fun br1 => ?_)
  · have c5 : 0 ≤ p ∧ p ≤ R 2 110 - 1 := by
      by_cases hh : 0 ≤ p ∧ p ≤ R 2 110 - 1
      · exact hh
      · rw [if_neg hh] at br1; exact absurd rfl br1
    clear br1
    have hob := as_over_b lw p 0 L
    have hsb := as_stay_b lw p 0 L
    have hbb := as_bar_b lw p 0 L
    have hwk : ∀ (g1 ge1 b1 o1 : Int) (a1 : Int → Int), im_ct ro T d 186 [mr 0, .inl p] (MW (EV4 v g1 ge1 b1 o1) (pl_U R 12 a1)) (fun r w => r = some (.inl (as_over lw p 0 L - as_stay lw p 0 L)) ∧ QS (EV4 v g1 ge1 b1 o1) (pl_U R 12 a1) w) := by
      intro g1 ge1 b1 o1 a1
      have t := m_walkers (ro := ro) (T := T) (d := d) (v := (EV4 v g1 ge1 b1 o1)) (R := (pl_U R 12 a1)) (lv := lv) (L := L) (lw := lw) (by omega) hT (TLS_q ht g1 ge1 b1 o1 a1) (show 0 ≤ p ∧ p < 10 by omega)
      rw [show (EV4 v g1 ge1 b1 o1) 30 = 0 from h30] at t
      exact t
    refine im_g 2 (y := (13, _, _, _)) rfl trivial ?_
    refine im_cM rfl rfl (show im_ct ro T d 188 [mr 0, .inl p] (MW v R) (fun r w => r = some (.inl (as_bar lw p 0 L)) ∧ QS v R w) from h30 ▸ m_barred (lv := lv) (L := L) (lw := lw) (by omega) hT ht (show 0 ≤ p ∧ p < 10 by omega)) rfl hT (fun v1 w1 hq => ?_)
    obtain ⟨rfl, g1, ge1, b1, o1, a1, rfl⟩ := hq
    refine ⟨(EV4 v g1 ge1 b1 o1), (pl_U R 12 a1), rfl, rfl, ?_⟩
    refine im_b rfl rfl ⟨(by constructor <;> omega), trivial⟩ (fun br2 => ?_) (fun br2 => ?_)
    · refine im_g 3 (y := (25, _, _, _)) rfl trivial ?_
      refine im_cM rfl rfl (show im_ct ro T d 186 [mr 0, .inl p] (MW (EV4 v g1 ge1 b1 o1) (pl_U R 12 a1)) (fun r w => r = some (.inl (as_over lw p 0 L - as_stay lw p 0 L)) ∧ QS (EV4 v g1 ge1 b1 o1) (pl_U R 12 a1) w) from hwk g1 ge1 b1 o1 a1) rfl hT (fun v1 w1 hq => ?_)
      obtain ⟨rfl, g2, ge2, b2, o2, a2, rfl⟩ := hq
      refine ⟨(EV4 v g2 ge2 b2 o2), (pl_U R 12 a2), rfl, rfl, ?_⟩
      refine im_cM rfl rfl (m_hasRoom (v := (EV4 v g2 ge2 b2 o2)) (R := (pl_U R 12 a2)) (n := (as_over lw p 0 L - as_stay lw p 0 L)) (by omega) hT (by constructor <;> omega) (show 0 ≤ R 2 68 ∧ R 2 68 ≤ 16 by omega)) rfl hT (fun v1 w1 hq => ?_)
      obtain ⟨rfl, rfl⟩ := hq
      refine ⟨(EV4 v g2 ge2 b2 o2), (pl_U R 12 a2), rfl, rfl, ?_⟩
      refine im_b rfl rfl ⟨(by omega), trivial⟩ (fun br3 => ?_) (fun br3 => ?_)
      · have c31 : (as_over lw p 0 L - as_stay lw p 0 L) = 0 ∨ (pl_U R 12 a2) 2 68 < 16 := by
          by_cases hh : (as_over lw p 0 L - as_stay lw p 0 L) = 0 ∨ (pl_U R 12 a2) 2 68 < 16
          · exact hh
          · rw [if_neg hh] at br3; exact absurd rfl br3
        clear br3
        have hroo : (as_over lw p 0 L - as_stay lw p 0 L) = 0 ∨ lv 1 < 16 := by
          have t : (as_over lw p 0 L - as_stay lw p 0 L) = 0 ∨ R 2 68 < 16 := c31
          omega
        have hsn : 0 ≤ (pl_send lw p lv L).1 := by
          unfold pl_send
          rw [if_neg (by omega), if_neg (by omega)]
          split
          · exact Int.le_refl _
          · rw [if_neg (by omega)]
            show 0 ≤ as_over lw p 0 L - as_stay lw p 0 L
            omega
        refine im_g 2 (y := (39, _, _, _)) rfl trivial ?_
        refine im_cM rfl rfl (m_keeps (v := (EV4 v g2 ge2 b2 o2)) (R := (pl_U R 12 a2)) (what := 0) (by omega) hT h34) rfl hT (fun v1 w1 hq => ?_)
        obtain ⟨rfl, rfl⟩ := hq
        refine ⟨(pl_U (EV4 v g2 ge2 b2 o2) 34 (kp_un (EV4 v g2 ge2 b2 o2) + 1)), (pl_U (pl_U R 12 a2) 14 (kp_keep 0 (EV4 v g2 ge2 b2 o2) (pl_U R 12 a2))), rfl, rfl, ?_⟩
        refine im_g 2 (y := (44, _, _, _)) rfl trivial ?_
        refine im_cM rfl rfl (m_reckons (v := (pl_U (EV4 v g2 ge2 b2 o2) 34 (kp_un (EV4 v g2 ge2 b2 o2) + 1))) (R := (pl_U (pl_U R 12 a2) 14 (kp_keep 0 (EV4 v g2 ge2 b2 o2) (pl_U R 12 a2)))) (lv := lv) (L := L) (lw := lw) (by omega) hT (show TLS (pl_U (EV4 v g2 ge2 b2 o2) 34 (kp_un (EV4 v g2 ge2 b2 o2) + 1)) (pl_U (pl_U R 12 a2) 14 (kp_keep 0 (EV4 v g2 ge2 b2 o2) (pl_U R 12 a2))) lv L lw from ht) h30 (p := p) (by omega) (by omega) hroo) rfl hT (fun v1 w1 hq => ?_)
        obtain ⟨rfl, K', ⟨g3, ge3, b3, o3, a3, rfl⟩, hK1, hK2⟩ := hq
        refine ⟨(EV4 (pl_U (EV4 v g2 ge2 b2 o2) 34 (kp_un (EV4 v g2 ge2 b2 o2) + 1)) g3 ge3 b3 o3), (pl_U (pl_U (pl_U (pl_U R 12 a2) 14 (kp_keep 0 (EV4 v g2 ge2 b2 o2) (pl_U R 12 a2))) 12 a3) 2 K'), rfl, rfl, ?_⟩
        refine im_r rfl rfl trivial rfl ?_
        refine Or.inr ⟨hsn, rfl, g3, ge3, b3, o3, a3, K', rfl, hK1, hK2⟩
      · have c31 : ¬ ((as_over lw p 0 L - as_stay lw p 0 L) = 0 ∨ (pl_U R 12 a2) 2 68 < 16) := by
          intro hh
          rw [if_pos hh] at br3
          exact br3 (by decide)
        clear br3
        replace c31 : ¬ ((as_over lw p 0 L - as_stay lw p 0 L) = 0 ∨ R 2 68 < 16) := c31
        refine im_g 1 (y := (36, _, _, _)) rfl trivial ?_
        refine im_r rfl rfl trivial rfl ?_
        have e : pl_send lw p lv L = (-5, lv, L) := (if_neg (by omega)).trans ((if_neg (by omega)).trans ((if_neg (by omega)).trans (if_pos (by omega))))
        rw [e]
        exact Or.inl ⟨(show (-5 : Int) < 0 by decide), rfl, g2, ge2, b2, o2, a2, rfl⟩
    · refine im_g 1 (y := (21, _, _, _)) rfl trivial ?_
      refine im_r rfl rfl trivial rfl ?_
      have e : pl_send lw p lv L = (-3, lv, L) := (if_neg (by omega)).trans (if_pos (by omega))
      rw [e]
      exact Or.inl ⟨(show (-3 : Int) < 0 by decide), rfl, g1, ge1, b1, o1, a1, rfl⟩
  · have c5 : ¬ (0 ≤ p ∧ p ≤ R 2 110 - 1) := by
      intro hh
      rw [if_pos hh] at br1
      exact br1 (by decide)
    clear br1
    refine im_g 1 (y := (10, _, _, _)) rfl trivial ?_
    refine im_r rfl rfl trivial rfl ?_
    have e : pl_send lw p lv L = (-2, lv, L) := if_pos (by omega)
    rw [e]
    exact Or.inl ⟨(show (-2 : Int) < 0 by decide), rfl, QS_0 v R⟩
end Ac
