/-! a machine's value -/
theorem im_and_ir (x y : Int) : im_ir (im_and x y) := by
  unfold im_and
  have h1 := Int32.le_toInt (Int32.ofInt x &&& Int32.ofInt y)
  have h2 := Int32.toInt_lt (Int32.ofInt x &&& Int32.ofInt y)
  exact ⟨by omega, by omega⟩
def mc_ret (c : Int → Int) (cl wl : Nat) (wd : Int → Int) (st : Int) (s : Int → Int) : Int := if st < 0 then 1 else mc_val (mc_run c cl wl wd cl st 0 s)
section Mv
variable {ro : ab_R} {T : List im_T} {d : Nat}
set_option maxHeartbeats 8000000 in
theorem c_value (hd : 2 ≤ d) (hT : T.length < 1000) {u : Int × Int × Int} {cl kl wl : Nat} {c k wd : Int → Int} {st : Int} (hst : -1 ≤ st ∧ st ≤ 1000) (hcl : cl ≤ 500) (hwl : wl ≤ 100) (hc : COK c) (hwd : WOK wd) {b0 : Int} (hb0 : b0 = 0 ∨ b0 = 1) {s : Int → Int} (hs : SOK s) : im_ct ro T d 18 [mr 0, mr 2, .inl st, mr 5] (MC 0 b0 s ++ XC 2 u cl c kl k ++ [.inr (0, wl, .inl wd)]) (fun r w => r = some (.inl (mc_ret c cl wl wd st s)) ∧ w = MC 0 (mc_all c cl wl wd st s).2.2 (mc_all c cl wl wd st s).2.1 ++ XC 2 u cl c kl k ++ [.inr (0, wl, .inl wd)] ∧ SOK (mc_all c cl wl wd st s).2.1) := by
  obtain ⟨d, rfl⟩ : ∃ e, d = e + 1 := ⟨d - 1, by omega⟩
  have kb : ∀ (a top : Int) (s1 : Int → Int) (x6 x7 : Option im_V), 0 ≤ a → a ≤ 300000000 → im_ir top → im_wp ro (ab_Ev ro ab_codes d) 2 (some .int) ab_k_X2_value 6 T (fun r w => r = some (.inl 0) ∧ w = MC 0 1 s1 ++ XC 2 u cl c kl k ++ [.inr (0, wl, .inl wd)]) (293, [some (mr 0), some (mr 2), some (.inl st), some (mr 5), some (.inl (top)), some (.inl (a)), x6, x7], [], MC 0 1 s1 ++ XC 2 u cl c kl k ++ [.inr (0, wl, .inl wd)]) := by
    intro a top s1 x6 x7 h1 h2 h3
    have e0 := hc (a + 1)
    refine im_g 6 (y := (24, _, _, _)) rfl trivial ?_
    refine im_b rfl rfl ⟨(by omega), (by omega), trivial⟩ (fun j1 => ?_) (fun j1 => ?_)
    · refine im_g 2 (y := (303, _, _, _)) rfl trivial ?_
      refine im_bT rfl rfl ⟨(by omega), trivial⟩ (by decide) ?_
      refine im_g 2 (y := (322, _, _, _)) rfl trivial ?_
      refine im_r rfl rfl trivial rfl ?_
      exact ⟨rfl, rfl⟩
    · refine im_g 15 (y := (52, _, _, _)) rfl ⟨(by omega), (by omega), trivial⟩ ?_
      refine im_b rfl rfl ⟨(by exact im_and_ir _ _), trivial⟩ (fun j2 => ?_) (fun j2 => ?_)
      · refine im_g 2 (y := (303, _, _, _)) rfl trivial ?_
        refine im_bT rfl rfl ⟨(by omega), trivial⟩ (by decide) ?_
        refine im_g 2 (y := (322, _, _, _)) rfl trivial ?_
        refine im_r rfl rfl trivial rfl ?_
        exact ⟨rfl, rfl⟩
      · refine im_g 2 (y := (59, _, _, _)) rfl trivial ?_
        refine im_bF rfl rfl ⟨(by omega), trivial⟩ (by decide) ?_
        refine im_g 3 (y := (303, _, _, _)) rfl trivial ?_
        refine im_bT rfl rfl ⟨(by omega), trivial⟩ (by decide) ?_
        refine im_g 2 (y := (322, _, _, _)) rfl trivial ?_
        refine im_r rfl rfl trivial rfl ?_
        exact ⟨rfl, rfl⟩
  have key : ∀ (m : Nat) (a top : Int) (s1 : Int → Int) (x6 x7 : Option im_V), 0 ≤ a → a ≤ 200000000 → 0 ≤ top → top ≤ 64 → (cl : Int) - a ≤ m → SOK s1 → (∀ i, 0 ≤ i → i < top → -(1000000000 + a) ≤ s1 i ∧ s1 i ≤ 1000000000 + a) → im_wp ro (ab_Ev ro ab_codes d) 2 (some .int) ab_k_X2_value 6 T (fun r w => r = some (.inl (mc_val (mc_run c cl wl wd m a top s1))) ∧ w = MC 0 (mc_run c cl wl wd m a top s1).2.2 (mc_run c cl wl wd m a top s1).2.1 ++ XC 2 u cl c kl k ++ [.inr (0, wl, .inl wd)] ∧ SOK (mc_run c cl wl wd m a top s1).2.1) (17, [some (mr 0), some (mr 2), some (.inl st), some (mr 5), some (.inl (top)), some (.inl (a)), x6, x7], [], MC 0 0 s1 ++ XC 2 u cl c kl k ++ [.inr (0, wl, .inl wd)]) := by
    intro m
    induction m with
    | zero =>
      intro a top s1 x6 x7 h1 h2 h3 h4 h5 h6 h7
      have e9 := h6 0
      refine im_g 4 (y := (24, _, _, _)) rfl trivial ?_
      refine im_bT rfl rfl ⟨(by omega), (by omega), trivial⟩ (by omega) ?_
      refine im_g 2 (y := (303, _, _, _)) rfl trivial ?_
      refine im_bF rfl rfl ⟨(by omega), trivial⟩ (by decide) ?_
      refine im_g 2 (y := (309, _, _, _)) rfl trivial ?_
      refine im_b rfl rfl ⟨(by omega), (by omega), trivial⟩ (fun j1 => ?_) (fun j1 => ?_)
      · refine im_g 4 (y := (322, _, _, _)) rfl ⟨(by omega), trivial⟩ ?_
        refine im_r rfl rfl trivial rfl ?_
        rw [mc_run_end (by omega)]
        refine ⟨?_, rfl, h6⟩
        unfold mc_val
        rw [if_neg (by intro z; rcases z with z | z; exact absurd rfl z; exact absurd z (show ¬ top < 1 by omega))]
      · refine im_g 2 (y := (322, _, _, _)) rfl trivial ?_
        refine im_r rfl rfl trivial rfl ?_
        rw [mc_run_end (by omega)]
        refine ⟨?_, rfl, h6⟩
        unfold mc_val
        rw [if_pos (Or.inr (show top < 1 by omega))]
    | succ m ih =>
      intro a top s1 x6 x7 h1 h2 h3 h4 h5 h6 h7
      have e9 := h6 0
      have e0 := hc a
      have e1 := im_and15 (c a)
      have e2 := im_shr4 e0
      have e3 := h6 (top - 1)
      have e4 := h6 (top - 2)
      have e5 := h7 (top - 1)
      have e6 := h7 (top - 2)
      have e7 := hwd (c a / 16)
      refine im_g 4 (y := (24, _, _, _)) rfl trivial ?_
      refine im_b rfl rfl ⟨(by omega), (by omega), trivial⟩ (fun j1 => ?_) (fun j1 => ?_)
      · refine im_g 2 (y := (303, _, _, _)) rfl trivial ?_
        refine im_bF rfl rfl ⟨(by omega), trivial⟩ (by decide) ?_
        refine im_g 2 (y := (309, _, _, _)) rfl trivial ?_
        refine im_b rfl rfl ⟨(by omega), (by omega), trivial⟩ (fun j2 => ?_) (fun j2 => ?_)
        · refine im_g 4 (y := (322, _, _, _)) rfl ⟨(by omega), trivial⟩ ?_
          refine im_r rfl rfl trivial rfl ?_
          rw [mc_run_s, if_pos (by omega)]
          refine ⟨?_, rfl, h6⟩
          unfold mc_val
          rw [if_neg (by intro z; rcases z with z | z; exact absurd rfl z; exact absurd z (show ¬ top < 1 by omega))]
        · refine im_g 2 (y := (322, _, _, _)) rfl trivial ?_
          refine im_r rfl rfl trivial rfl ?_
          rw [mc_run_s, if_pos (by omega)]
          refine ⟨?_, rfl, h6⟩
          unfold mc_val
          rw [if_pos (Or.inr (show top < 1 by omega))]
      · refine im_g 14 (y := (50, _, _, _)) rfl ⟨(by omega), (by omega), trivial⟩ ?_
        rw [e1, e2]
        refine im_g 1 (y := (52, _, _, _)) rfl trivial ?_
        refine im_b rfl rfl ⟨(by omega), trivial⟩ (fun j3 => ?_) (fun j3 => ?_)
        · refine im_g 2 (y := (303, _, _, _)) rfl trivial ?_
          refine im_bF rfl rfl ⟨(by omega), trivial⟩ (by decide) ?_
          refine im_g 2 (y := (309, _, _, _)) rfl trivial ?_
          refine im_b rfl rfl ⟨(by omega), (by omega), trivial⟩ (fun j4 => ?_) (fun j4 => ?_)
          · refine im_g 4 (y := (322, _, _, _)) rfl ⟨(by omega), trivial⟩ ?_
            refine im_r rfl rfl trivial rfl ?_
            rw [mc_run_s, if_neg (by omega), if_pos (by omega)]
            refine ⟨?_, rfl, h6⟩
            unfold mc_val
            rw [if_neg (by intro z; rcases z with z | z; exact absurd rfl z; exact absurd z (show ¬ top < 1 by omega))]
          · refine im_g 2 (y := (322, _, _, _)) rfl trivial ?_
            refine im_r rfl rfl trivial rfl ?_
            rw [mc_run_s, if_neg (by omega), if_pos (by omega)]
            refine ⟨?_, rfl, h6⟩
            unfold mc_val
            rw [if_pos (Or.inr (show top < 1 by omega))]
        · refine im_g 2 (y := (59, _, _, _)) rfl trivial ?_
          refine im_bT rfl rfl ⟨(by omega), trivial⟩ rfl ?_
          refine im_g 2 (y := (68, _, _, _)) rfl trivial ?_
          refine im_b rfl rfl ⟨(by omega), (by omega), trivial⟩ (fun j5 => ?_) (fun j5 => ?_)
          · refine im_g 4 (y := (84, _, _, _)) rfl trivial ?_
            refine im_b rfl rfl ⟨(by omega), (by omega), trivial⟩ (fun j6 => ?_) (fun j6 => ?_)
            · refine im_g 5 (y := (104, _, _, _)) rfl trivial ?_
              refine im_b rfl rfl ⟨(by omega), (by omega), trivial⟩ (fun j7 => ?_) (fun j7 => ?_)
              · refine im_g 1 (y := (114, _, _, _)) rfl trivial ?_
                refine im_b rfl rfl ⟨(by omega), trivial⟩ (fun j8 => ?_) (fun j8 => ?_)
                · refine im_g 6 (y := (17, _, _, _)) rfl ⟨(by omega), trivial⟩ ?_
                  have z1 : mc_lit (c a % 16) (c a / 16) wl wd = 0 := by
                    unfold mc_lit
                    rw [if_neg (by omega), if_neg (by omega)]
                  rw [mc_run_s, if_neg (by omega), if_neg (by omega), if_pos (by omega), if_neg (by omega), z1]
                  exact ih (a + 1) (top + 1) (im_up s1 top (0)) _ _ (by omega) (by omega) (by omega) (by omega) (by omega) (SOK_up h6 (by omega)) (fun i q1 q2 => by unfold im_up; split; omega; have := h7 i q1 (by omega); omega)
                · refine im_g 3 (y := (121, _, _, _)) rfl trivial ?_
                  refine im_b rfl rfl ⟨(by omega), (by omega), trivial⟩ (fun j9 => ?_) (fun j9 => ?_)
                  · refine im_g 6 (y := (17, _, _, _)) rfl ⟨(by omega), trivial⟩ ?_
                    have z1 : mc_lit (c a % 16) (c a / 16) wl wd = 0 := by
                      unfold mc_lit
                      rw [if_neg (by omega), if_neg (by omega)]
                    rw [mc_run_s, if_neg (by omega), if_neg (by omega), if_pos (by omega), if_neg (by omega), z1]
                    exact ih (a + 1) (top + 1) (im_up s1 top (0)) _ _ (by omega) (by omega) (by omega) (by omega) (by omega) (SOK_up h6 (by omega)) (fun i q1 q2 => by unfold im_up; split; omega; have := h7 i q1 (by omega); omega)
                  · refine im_g 9 (y := (17, _, _, _)) rfl ⟨(by omega), (by omega), trivial⟩ ?_
                    have z1 : mc_lit (c a % 16) (c a / 16) wl wd = wd (c a / 16) := by
                      unfold mc_lit
                      rw [if_neg (by omega), if_pos (by omega)]
                    rw [mc_run_s, if_neg (by omega), if_neg (by omega), if_pos (by omega), if_neg (by omega), z1]
                    exact ih (a + 1) (top + 1) (im_up s1 top (wd (c a / 16))) _ _ (by omega) (by omega) (by omega) (by omega) (by omega) (SOK_up h6 (by omega)) (fun i q1 q2 => by unfold im_up; split; omega; have := h7 i q1 (by omega); omega)
              · refine im_g 7 (y := (17, _, _, _)) rfl ⟨(by omega), trivial⟩ ?_
                have z1 : mc_lit (c a % 16) (c a / 16) wl wd = c a / 16 := by
                  unfold mc_lit
                  rw [if_pos (by omega)]
                rw [mc_run_s, if_neg (by omega), if_neg (by omega), if_pos (by omega), if_neg (by omega), z1]
                exact ih (a + 1) (top + 1) (im_up s1 top (c a / 16)) _ _ (by omega) (by omega) (by omega) (by omega) (by omega) (SOK_up h6 (by omega)) (fun i q1 q2 => by unfold im_up; split; omega; have := h7 i q1 (by omega); omega)
            · refine im_g 6 (y := (303, _, _, _)) rfl ⟨(by omega), trivial⟩ ?_
              refine im_bT rfl rfl ⟨(by omega), trivial⟩ (by decide) ?_
              refine im_g 2 (y := (322, _, _, _)) rfl trivial ?_
              refine im_r rfl rfl trivial rfl ?_
              rw [mc_run_s, if_neg (by omega), if_neg (by omega), if_pos (by omega), if_pos (by omega)]
              exact ⟨rfl, rfl, h6⟩
          · refine im_g 2 (y := (74, _, _, _)) rfl trivial ?_
            refine im_b rfl rfl ⟨(by omega), (by omega), trivial⟩ (fun j10 => ?_) (fun j10 => ?_)
            · refine im_g 2 (y := (142, _, _, _)) rfl trivial ?_
              refine im_b rfl rfl ⟨(by omega), (by omega), trivial⟩ (fun j11 => ?_) (fun j11 => ?_)
              · refine im_g 4 (y := (293, _, _, _)) rfl ⟨(by omega), trivial⟩ ?_
                rw [mc_run_s, if_neg (by omega), if_neg (by omega), if_neg (by omega), if_pos (by omega)]
                refine im_q (fun r w hq => ?_) (kb a (top) s1 _ _ (by omega) (by omega) (by omega))
                obtain ⟨rfl, rfl⟩ := hq
                exact ⟨rfl, rfl, h6⟩
              · refine im_g 2 (y := (149, _, _, _)) rfl trivial ?_
                refine im_b rfl rfl ⟨(by omega), (by omega), trivial⟩ (fun j12 => ?_) (fun j12 => ?_)
                · refine im_g 2 (y := (170, _, _, _)) rfl trivial ?_
                  refine im_b rfl rfl ⟨(by omega), (by omega), trivial⟩ (fun j13 => ?_) (fun j13 => ?_)
                  · refine im_g 2 (y := (200, _, _, _)) rfl trivial ?_
                    refine im_b rfl rfl ⟨(by omega), (by omega), trivial⟩ (fun j14 => ?_) (fun j14 => ?_)
                    · refine im_g 6 (y := (253, _, _, _)) rfl ⟨(by omega), trivial⟩ ?_
                      refine im_b rfl rfl ⟨(by omega), trivial⟩ (fun j15 => ?_) (fun j15 => ?_)
                      · refine im_g 3 (y := (265, _, _, _)) rfl trivial ?_
                        refine im_b rfl rfl ⟨(by omega), (by omega), trivial⟩ (fun j16 => ?_) (fun j16 => ?_)
                        · refine im_g 1 (y := (273, _, _, _)) rfl trivial ?_
                          refine im_b rfl rfl ⟨(by omega), (by omega), trivial⟩ (fun j17 => ?_) (fun j17 => ?_)
                          · refine im_g 3 (y := (17, _, _, _)) rfl trivial ?_
                            rw [mc_run_s, if_neg (by omega), if_neg (by omega), if_neg (by omega), if_neg (by omega), if_neg (by omega), if_neg (by omega), if_neg (by omega)]
                            exact ih (a + 1) (top - 1) s1 _ _ (by omega) (by omega) (by omega) (by omega) (by omega) (h6) (fun i q1 q2 => by have := h7 i q1 (by omega); omega)
                          · refine im_g 9 (y := (17, _, _, _)) rfl ⟨(by omega), (by omega), trivial⟩ ?_
                            rw [mc_run_s, if_neg (by omega), if_neg (by omega), if_neg (by omega), if_neg (by omega), if_neg (by omega), if_neg (by omega), if_pos (by omega)]
                            exact ih (max a (c a / 16 - 1) + 1) (top) s1 _ _ (by omega) (by omega) (by omega) (by omega) (by omega) (h6) (fun i q1 q2 => by have := h7 i q1 (by omega); omega)
                        · refine im_g 2 (y := (273, _, _, _)) rfl trivial ?_
                          refine im_b rfl rfl ⟨(by omega), (by omega), trivial⟩ (fun j18 => ?_) (fun j18 => ?_)
                          · refine im_g 3 (y := (17, _, _, _)) rfl trivial ?_
                            rw [mc_run_s, if_neg (by omega), if_neg (by omega), if_neg (by omega), if_neg (by omega), if_neg (by omega), if_neg (by omega), if_neg (by omega)]
                            exact ih (a + 1) (top - 1) s1 _ _ (by omega) (by omega) (by omega) (by omega) (by omega) (h6) (fun i q1 q2 => by have := h7 i q1 (by omega); omega)
                          · refine im_g 9 (y := (17, _, _, _)) rfl ⟨(by omega), (by omega), trivial⟩ ?_
                            rw [mc_run_s, if_neg (by omega), if_neg (by omega), if_neg (by omega), if_neg (by omega), if_neg (by omega), if_neg (by omega), if_pos (by omega)]
                            exact ih (max a (c a / 16 - 1) + 1) (top) s1 _ _ (by omega) (by omega) (by omega) (by omega) (by omega) (h6) (fun i q1 q2 => by have := h7 i q1 (by omega); omega)
                      · refine im_g 4 (y := (265, _, _, _)) rfl trivial ?_
                        refine im_b rfl rfl ⟨(by omega), (by omega), trivial⟩ (fun j19 => ?_) (fun j19 => ?_)
                        · refine im_g 1 (y := (273, _, _, _)) rfl trivial ?_
                          refine im_b rfl rfl ⟨(by omega), (by omega), trivial⟩ (fun j20 => ?_) (fun j20 => ?_)
                          · refine im_g 3 (y := (17, _, _, _)) rfl trivial ?_
                            rw [mc_run_s, if_neg (by omega), if_neg (by omega), if_neg (by omega), if_neg (by omega), if_neg (by omega), if_neg (by omega), if_neg (by omega)]
                            exact ih (a + 1) (top - 1) s1 _ _ (by omega) (by omega) (by omega) (by omega) (by omega) (h6) (fun i q1 q2 => by have := h7 i q1 (by omega); omega)
                          · refine im_g 9 (y := (17, _, _, _)) rfl ⟨(by omega), (by omega), trivial⟩ ?_
                            rw [mc_run_s, if_neg (by omega), if_neg (by omega), if_neg (by omega), if_neg (by omega), if_neg (by omega), if_neg (by omega), if_pos (by omega)]
                            exact ih (max a (c a / 16 - 1) + 1) (top) s1 _ _ (by omega) (by omega) (by omega) (by omega) (by omega) (h6) (fun i q1 q2 => by have := h7 i q1 (by omega); omega)
                        · refine im_g 2 (y := (273, _, _, _)) rfl trivial ?_
                          refine im_b rfl rfl ⟨(by omega), (by omega), trivial⟩ (fun j21 => ?_) (fun j21 => ?_)
                          · refine im_g 3 (y := (17, _, _, _)) rfl trivial ?_
                            rw [mc_run_s, if_neg (by omega), if_neg (by omega), if_neg (by omega), if_neg (by omega), if_neg (by omega), if_neg (by omega), if_neg (by omega)]
                            exact ih (a + 1) (top - 1) s1 _ _ (by omega) (by omega) (by omega) (by omega) (by omega) (h6) (fun i q1 q2 => by have := h7 i q1 (by omega); omega)
                          · refine im_g 9 (y := (17, _, _, _)) rfl ⟨(by omega), (by omega), trivial⟩ ?_
                            rw [mc_run_s, if_neg (by omega), if_neg (by omega), if_neg (by omega), if_neg (by omega), if_neg (by omega), if_neg (by omega), if_pos (by omega)]
                            exact ih (max a (c a / 16 - 1) + 1) (top) s1 _ _ (by omega) (by omega) (by omega) (by omega) (by omega) (h6) (fun i q1 q2 => by have := h7 i q1 (by omega); omega)
                    · refine im_g 21 (y := (234, _, _, _)) rfl ⟨(by omega), (by omega), (by omega), (by omega), trivial⟩ ?_
                      refine im_call [0,1] rfl rfl (c_combined (w0 := c a % 16) (a := s1 (top - 2)) (b := s1 (top - 1)) (s := s1) (by omega) hT (by omega) (by omega) (by omega)) rfl rfl rfl (by decide) rfl (by decide) hT (fun v1 w1 hq => ?_)
                      obtain ⟨rfl, rfl⟩ := hq
                      refine ⟨_, _, MC 0 (mc_cb (c a % 16) (s1 (top - 2)) (s1 (top - 1))).2 s1 ++ XC 2 u cl c kl k ++ [.inr (0, wl, .inl wd)], rfl, rfl, rfl, ?_⟩
                      have hb1 := mc_cb_b (c a % 16) (s1 (top - 2)) (s1 (top - 1))
                      rcases mc_cb2 (c a % 16) (s1 (top - 2)) (s1 (top - 1)) with hz | hz
                      · rw [hz]
                        refine im_g 5 (y := (17, _, _, _)) rfl ⟨(by omega), trivial⟩ ?_
                        rw [mc_run_s, if_neg (by omega), if_neg (by omega), if_neg (by omega), if_neg (by omega), if_neg (by omega), if_pos (by omega), if_pos hz]
                        exact ih (a + 1) (top - 1) (im_up s1 (top - 2) (mc_cb (c a % 16) (s1 (top - 2)) (s1 (top - 1))).1) _ _ (by omega) (by omega) (by omega) (by omega) (by omega) (SOK_up h6 (by omega)) (fun i q1 q2 => by unfold im_up; split; omega; have := h7 i q1 (by omega); omega)
                      · rw [hz]
                        refine im_g 3 (y := (293, _, _, _)) rfl ⟨(by omega), trivial⟩ ?_
                        rw [mc_run_s, if_neg (by omega), if_neg (by omega), if_neg (by omega), if_neg (by omega), if_neg (by omega), if_pos (by omega), if_neg (by omega)]
                        refine im_q (fun r w hq => ?_) (kb a (top - 1) (im_up s1 (top - 2) (mc_cb (c a % 16) (s1 (top - 2)) (s1 (top - 1))).1) _ _ (by omega) (by omega) (by omega))
                        obtain ⟨rfl, rfl⟩ := hq
                        exact ⟨rfl, rfl, SOK_up h6 (by omega)⟩
                  · refine im_g 17 (y := (17, _, _, _)) rfl ⟨(by omega), (by omega), trivial⟩ ?_
                    rw [mc_run_s, if_neg (by omega), if_neg (by omega), if_neg (by omega), if_neg (by omega), if_pos (by omega)]
                    exact ih (a + 1) (top) (im_up s1 (top - 1) (1 - s1 (top - 1))) _ _ (by omega) (by omega) (by omega) (by omega) (by omega) (SOK_up h6 (by omega)) (fun i q1 q2 => by unfold im_up; split; omega; have := h7 i q1 (by omega); omega)
                · refine im_g 2 (y := (155, _, _, _)) rfl trivial ?_
                  refine im_b rfl rfl ⟨(by omega), (by omega), trivial⟩ (fun j22 => ?_) (fun j22 => ?_)
                  · refine im_g 2 (y := (170, _, _, _)) rfl trivial ?_
                    refine im_b rfl rfl ⟨(by omega), (by omega), trivial⟩ (fun j23 => ?_) (fun j23 => ?_)
                    · refine im_g 2 (y := (200, _, _, _)) rfl trivial ?_
                      refine im_b rfl rfl ⟨(by omega), (by omega), trivial⟩ (fun j24 => ?_) (fun j24 => ?_)
                      · refine im_g 6 (y := (253, _, _, _)) rfl ⟨(by omega), trivial⟩ ?_
                        refine im_b rfl rfl ⟨(by omega), trivial⟩ (fun j25 => ?_) (fun j25 => ?_)
                        · refine im_g 3 (y := (265, _, _, _)) rfl trivial ?_
                          refine im_b rfl rfl ⟨(by omega), (by omega), trivial⟩ (fun j26 => ?_) (fun j26 => ?_)
                          · refine im_g 1 (y := (273, _, _, _)) rfl trivial ?_
                            refine im_b rfl rfl ⟨(by omega), (by omega), trivial⟩ (fun j27 => ?_) (fun j27 => ?_)
                            · refine im_g 3 (y := (17, _, _, _)) rfl trivial ?_
                              rw [mc_run_s, if_neg (by omega), if_neg (by omega), if_neg (by omega), if_neg (by omega), if_neg (by omega), if_neg (by omega), if_neg (by omega)]
                              exact ih (a + 1) (top - 1) s1 _ _ (by omega) (by omega) (by omega) (by omega) (by omega) (h6) (fun i q1 q2 => by have := h7 i q1 (by omega); omega)
                            · refine im_g 9 (y := (17, _, _, _)) rfl ⟨(by omega), (by omega), trivial⟩ ?_
                              rw [mc_run_s, if_neg (by omega), if_neg (by omega), if_neg (by omega), if_neg (by omega), if_neg (by omega), if_neg (by omega), if_pos (by omega)]
                              exact ih (max a (c a / 16 - 1) + 1) (top) s1 _ _ (by omega) (by omega) (by omega) (by omega) (by omega) (h6) (fun i q1 q2 => by have := h7 i q1 (by omega); omega)
                          · refine im_g 2 (y := (273, _, _, _)) rfl trivial ?_
                            refine im_b rfl rfl ⟨(by omega), (by omega), trivial⟩ (fun j28 => ?_) (fun j28 => ?_)
                            · refine im_g 3 (y := (17, _, _, _)) rfl trivial ?_
                              rw [mc_run_s, if_neg (by omega), if_neg (by omega), if_neg (by omega), if_neg (by omega), if_neg (by omega), if_neg (by omega), if_neg (by omega)]
                              exact ih (a + 1) (top - 1) s1 _ _ (by omega) (by omega) (by omega) (by omega) (by omega) (h6) (fun i q1 q2 => by have := h7 i q1 (by omega); omega)
                            · refine im_g 9 (y := (17, _, _, _)) rfl ⟨(by omega), (by omega), trivial⟩ ?_
                              rw [mc_run_s, if_neg (by omega), if_neg (by omega), if_neg (by omega), if_neg (by omega), if_neg (by omega), if_neg (by omega), if_pos (by omega)]
                              exact ih (max a (c a / 16 - 1) + 1) (top) s1 _ _ (by omega) (by omega) (by omega) (by omega) (by omega) (h6) (fun i q1 q2 => by have := h7 i q1 (by omega); omega)
                        · refine im_g 4 (y := (265, _, _, _)) rfl trivial ?_
                          refine im_b rfl rfl ⟨(by omega), (by omega), trivial⟩ (fun j29 => ?_) (fun j29 => ?_)
                          · refine im_g 1 (y := (273, _, _, _)) rfl trivial ?_
                            refine im_b rfl rfl ⟨(by omega), (by omega), trivial⟩ (fun j30 => ?_) (fun j30 => ?_)
                            · refine im_g 3 (y := (17, _, _, _)) rfl trivial ?_
                              rw [mc_run_s, if_neg (by omega), if_neg (by omega), if_neg (by omega), if_neg (by omega), if_neg (by omega), if_neg (by omega), if_neg (by omega)]
                              exact ih (a + 1) (top - 1) s1 _ _ (by omega) (by omega) (by omega) (by omega) (by omega) (h6) (fun i q1 q2 => by have := h7 i q1 (by omega); omega)
                            · refine im_g 9 (y := (17, _, _, _)) rfl ⟨(by omega), (by omega), trivial⟩ ?_
                              rw [mc_run_s, if_neg (by omega), if_neg (by omega), if_neg (by omega), if_neg (by omega), if_neg (by omega), if_neg (by omega), if_pos (by omega)]
                              exact ih (max a (c a / 16 - 1) + 1) (top) s1 _ _ (by omega) (by omega) (by omega) (by omega) (by omega) (h6) (fun i q1 q2 => by have := h7 i q1 (by omega); omega)
                          · refine im_g 2 (y := (273, _, _, _)) rfl trivial ?_
                            refine im_b rfl rfl ⟨(by omega), (by omega), trivial⟩ (fun j31 => ?_) (fun j31 => ?_)
                            · refine im_g 3 (y := (17, _, _, _)) rfl trivial ?_
                              rw [mc_run_s, if_neg (by omega), if_neg (by omega), if_neg (by omega), if_neg (by omega), if_neg (by omega), if_neg (by omega), if_neg (by omega)]
                              exact ih (a + 1) (top - 1) s1 _ _ (by omega) (by omega) (by omega) (by omega) (by omega) (h6) (fun i q1 q2 => by have := h7 i q1 (by omega); omega)
                            · refine im_g 9 (y := (17, _, _, _)) rfl ⟨(by omega), (by omega), trivial⟩ ?_
                              rw [mc_run_s, if_neg (by omega), if_neg (by omega), if_neg (by omega), if_neg (by omega), if_neg (by omega), if_neg (by omega), if_pos (by omega)]
                              exact ih (max a (c a / 16 - 1) + 1) (top) s1 _ _ (by omega) (by omega) (by omega) (by omega) (by omega) (h6) (fun i q1 q2 => by have := h7 i q1 (by omega); omega)
                      · refine im_g 21 (y := (234, _, _, _)) rfl ⟨(by omega), (by omega), (by omega), (by omega), trivial⟩ ?_
                        refine im_call [0,1] rfl rfl (c_combined (w0 := c a % 16) (a := s1 (top - 2)) (b := s1 (top - 1)) (s := s1) (by omega) hT (by omega) (by omega) (by omega)) rfl rfl rfl (by decide) rfl (by decide) hT (fun v1 w1 hq => ?_)
                        obtain ⟨rfl, rfl⟩ := hq
                        refine ⟨_, _, MC 0 (mc_cb (c a % 16) (s1 (top - 2)) (s1 (top - 1))).2 s1 ++ XC 2 u cl c kl k ++ [.inr (0, wl, .inl wd)], rfl, rfl, rfl, ?_⟩
                        have hb1 := mc_cb_b (c a % 16) (s1 (top - 2)) (s1 (top - 1))
                        rcases mc_cb2 (c a % 16) (s1 (top - 2)) (s1 (top - 1)) with hz | hz
                        · rw [hz]
                          refine im_g 5 (y := (17, _, _, _)) rfl ⟨(by omega), trivial⟩ ?_
                          rw [mc_run_s, if_neg (by omega), if_neg (by omega), if_neg (by omega), if_neg (by omega), if_neg (by omega), if_pos (by omega), if_pos hz]
                          exact ih (a + 1) (top - 1) (im_up s1 (top - 2) (mc_cb (c a % 16) (s1 (top - 2)) (s1 (top - 1))).1) _ _ (by omega) (by omega) (by omega) (by omega) (by omega) (SOK_up h6 (by omega)) (fun i q1 q2 => by unfold im_up; split; omega; have := h7 i q1 (by omega); omega)
                        · rw [hz]
                          refine im_g 3 (y := (293, _, _, _)) rfl ⟨(by omega), trivial⟩ ?_
                          rw [mc_run_s, if_neg (by omega), if_neg (by omega), if_neg (by omega), if_neg (by omega), if_neg (by omega), if_pos (by omega), if_neg (by omega)]
                          refine im_q (fun r w hq => ?_) (kb a (top - 1) (im_up s1 (top - 2) (mc_cb (c a % 16) (s1 (top - 2)) (s1 (top - 1))).1) _ _ (by omega) (by omega) (by omega))
                          obtain ⟨rfl, rfl⟩ := hq
                          exact ⟨rfl, rfl, SOK_up h6 (by omega)⟩
                    · refine im_g 17 (y := (17, _, _, _)) rfl ⟨(by omega), (by omega), trivial⟩ ?_
                      rw [mc_run_s, if_neg (by omega), if_neg (by omega), if_neg (by omega), if_neg (by omega), if_pos (by omega)]
                      exact ih (a + 1) (top) (im_up s1 (top - 1) (1 - s1 (top - 1))) _ _ (by omega) (by omega) (by omega) (by omega) (by omega) (SOK_up h6 (by omega)) (fun i q1 q2 => by unfold im_up; split; omega; have := h7 i q1 (by omega); omega)
                  · refine im_g 4 (y := (293, _, _, _)) rfl ⟨(by omega), trivial⟩ ?_
                    rw [mc_run_s, if_neg (by omega), if_neg (by omega), if_neg (by omega), if_pos (by omega)]
                    refine im_q (fun r w hq => ?_) (kb a (top) s1 _ _ (by omega) (by omega) (by omega))
                    obtain ⟨rfl, rfl⟩ := hq
                    exact ⟨rfl, rfl, h6⟩
            · refine im_g 4 (y := (84, _, _, _)) rfl trivial ?_
              refine im_b rfl rfl ⟨(by omega), (by omega), trivial⟩ (fun j32 => ?_) (fun j32 => ?_)
              · refine im_g 5 (y := (104, _, _, _)) rfl trivial ?_
                refine im_b rfl rfl ⟨(by omega), (by omega), trivial⟩ (fun j33 => ?_) (fun j33 => ?_)
                · refine im_g 1 (y := (114, _, _, _)) rfl trivial ?_
                  refine im_b rfl rfl ⟨(by omega), trivial⟩ (fun j34 => ?_) (fun j34 => ?_)
                  · refine im_g 6 (y := (17, _, _, _)) rfl ⟨(by omega), trivial⟩ ?_
                    have z1 : mc_lit (c a % 16) (c a / 16) wl wd = 0 := by
                      unfold mc_lit
                      rw [if_neg (by omega), if_neg (by omega)]
                    rw [mc_run_s, if_neg (by omega), if_neg (by omega), if_pos (by omega), if_neg (by omega), z1]
                    exact ih (a + 1) (top + 1) (im_up s1 top (0)) _ _ (by omega) (by omega) (by omega) (by omega) (by omega) (SOK_up h6 (by omega)) (fun i q1 q2 => by unfold im_up; split; omega; have := h7 i q1 (by omega); omega)
                  · refine im_g 3 (y := (121, _, _, _)) rfl trivial ?_
                    refine im_b rfl rfl ⟨(by omega), (by omega), trivial⟩ (fun j35 => ?_) (fun j35 => ?_)
                    · refine im_g 6 (y := (17, _, _, _)) rfl ⟨(by omega), trivial⟩ ?_
                      have z1 : mc_lit (c a % 16) (c a / 16) wl wd = 0 := by
                        unfold mc_lit
                        rw [if_neg (by omega), if_neg (by omega)]
                      rw [mc_run_s, if_neg (by omega), if_neg (by omega), if_pos (by omega), if_neg (by omega), z1]
                      exact ih (a + 1) (top + 1) (im_up s1 top (0)) _ _ (by omega) (by omega) (by omega) (by omega) (by omega) (SOK_up h6 (by omega)) (fun i q1 q2 => by unfold im_up; split; omega; have := h7 i q1 (by omega); omega)
                    · refine im_g 9 (y := (17, _, _, _)) rfl ⟨(by omega), (by omega), trivial⟩ ?_
                      have z1 : mc_lit (c a % 16) (c a / 16) wl wd = wd (c a / 16) := by
                        unfold mc_lit
                        rw [if_neg (by omega), if_pos (by omega)]
                      rw [mc_run_s, if_neg (by omega), if_neg (by omega), if_pos (by omega), if_neg (by omega), z1]
                      exact ih (a + 1) (top + 1) (im_up s1 top (wd (c a / 16))) _ _ (by omega) (by omega) (by omega) (by omega) (by omega) (SOK_up h6 (by omega)) (fun i q1 q2 => by unfold im_up; split; omega; have := h7 i q1 (by omega); omega)
                · refine im_g 7 (y := (17, _, _, _)) rfl ⟨(by omega), trivial⟩ ?_
                  have z1 : mc_lit (c a % 16) (c a / 16) wl wd = c a / 16 := by
                    unfold mc_lit
                    rw [if_pos (by omega)]
                  rw [mc_run_s, if_neg (by omega), if_neg (by omega), if_pos (by omega), if_neg (by omega), z1]
                  exact ih (a + 1) (top + 1) (im_up s1 top (c a / 16)) _ _ (by omega) (by omega) (by omega) (by omega) (by omega) (SOK_up h6 (by omega)) (fun i q1 q2 => by unfold im_up; split; omega; have := h7 i q1 (by omega); omega)
              · refine im_g 6 (y := (303, _, _, _)) rfl ⟨(by omega), trivial⟩ ?_
                refine im_bT rfl rfl ⟨(by omega), trivial⟩ (by decide) ?_
                refine im_g 2 (y := (322, _, _, _)) rfl trivial ?_
                refine im_r rfl rfl trivial rfl ?_
                rw [mc_run_s, if_neg (by omega), if_neg (by omega), if_pos (by omega), if_pos (by omega)]
                exact ⟨rfl, rfl, h6⟩
  refine im_ct_of (own := 2) (ret := (some .int)) (code := ab_k_X2_value) (nL := 8) (L0 := [some (mr 0), some (mr 2), some (.inl st), some (mr 5), none, none, none, none]) (n := 6) rfl rfl rfl rfl rfl rfl rfl rfl rfl ?_
  refine im_g 4 (y := (6, _, _, _)) rfl ⟨(by decide), trivial⟩ ?_
  refine im_b rfl rfl ⟨(by omega), trivial⟩ (fun j1 => ?_) (fun j1 => ?_)
  · refine im_g 4 (y := (17, _, _, _)) rfl trivial ?_
    rw [show mc_ret c cl wl wd st s = mc_val (mc_run c cl wl wd cl st 0 s) by unfold mc_ret; rw [if_neg (by omega)], show mc_all c cl wl wd st s = mc_run c cl wl wd cl st 0 s by unfold mc_all; rw [if_neg (by omega)]]
    exact key cl st 0 s none none (by omega) (by omega) (by omega) (by omega) (by omega) hs (fun i q1 q2 => by omega)
  · refine im_g 1 (y := (10, _, _, _)) rfl trivial ?_
    refine im_r rfl rfl trivial rfl ?_
    rw [show mc_ret c cl wl wd st s = 1 by unfold mc_ret; rw [if_pos (by omega)], show mc_all c cl wl wd st s = (0, s, 0) by unfold mc_all; rw [if_pos (by omega)]]
    exact ⟨rfl, rfl, hs⟩
end Mv
/-! a value, whatever lay on the stack -/
theorem mc_ind {c wd : Int → Int} {cl wl : Int} : ∀ (n : Nat) (a top : Int) (s s' : Int → Int), (∀ i, 0 ≤ i → i < top → s i = s' i) → (mc_run c cl wl wd n a top s).1 = (mc_run c cl wl wd n a top s').1 ∧ (mc_run c cl wl wd n a top s).2.2 = (mc_run c cl wl wd n a top s').2.2 ∧ ∀ i, 0 ≤ i → i < (mc_run c cl wl wd n a top s).1 → (mc_run c cl wl wd n a top s).2.1 i = (mc_run c cl wl wd n a top s').2.1 i := by
  intro n
  induction n with
  | zero => intro a top s s' h; exact ⟨rfl, rfl, h⟩
  | succ n ih =>
    intro a top s s' h
    rw [mc_run_s, mc_run_s]
    by_cases h1 : cl ≤ a
    · rw [if_pos h1, if_pos h1]; exact ⟨rfl, rfl, h⟩
    rw [if_neg h1, if_neg h1]
    by_cases h2 : c a % 16 = 0
    · rw [if_pos h2, if_pos h2]; exact ⟨rfl, rfl, h⟩
    rw [if_neg h2, if_neg h2]
    by_cases h3 : c a % 16 = 1 ∨ c a % 16 = 2
    · rw [if_pos h3, if_pos h3]
      by_cases h4 : 64 ≤ top
      · rw [if_pos h4, if_pos h4]; exact ⟨rfl, rfl, h⟩
      rw [if_neg h4, if_neg h4]
      refine ih _ _ _ _ (fun i q1 q2 => ?_)
      unfold im_up
      split
      · rfl
      · exact h i q1 (by omega)
    rw [if_neg h3, if_neg h3]
    by_cases h4 : top < 1 ∨ (c a % 16 < 11 ∧ top < 2)
    · rw [if_pos h4, if_pos h4]; exact ⟨rfl, rfl, h⟩
    rw [if_neg h4, if_neg h4]
    have e1 : s (top - 1) = s' (top - 1) := h _ (by omega) (by omega)
    rw [← e1]
    by_cases h5 : c a % 16 = 11
    · rw [if_pos h5, if_pos h5]
      refine ih _ _ _ _ (fun i q1 q2 => ?_)
      unfold im_up
      split
      · rfl
      · exact h i q1 (by omega)
    rw [if_neg h5, if_neg h5]
    by_cases h6 : c a % 16 < 11
    · rw [if_pos h6, if_pos h6]
      have e2 : s (top - 2) = s' (top - 2) := h _ (by omega) (by omega)
      rw [← e2]
      have hu : ∀ x : Int, ∀ i, 0 ≤ i → i < top - 1 → im_up s (top - 2) x i = im_up s' (top - 2) x i := by
        intro x i q1 q2
        unfold im_up
        split
        · rfl
        · exact h i q1 (by omega)
      by_cases h7 : (mc_cb (c a % 16) (s (top - 2)) (s (top - 1))).2 = 0
      · rw [if_pos h7, if_pos h7]; exact ih _ _ _ _ (hu _)
      · rw [if_neg h7, if_neg h7]; exact ⟨rfl, rfl, hu _⟩
    rw [if_neg h6, if_neg h6]
    by_cases h7 : (¬ s (top - 1) = 0) ↔ c a % 16 = 12
    · rw [if_pos h7, if_pos h7]; exact ih _ _ _ _ h
    · rw [if_neg h7, if_neg h7]; exact ih _ _ _ _ (fun i q1 q2 => h i q1 (by omega))
/-- what code comes to from a place on, and whether it is broken -/
def mc_ev (c : Int → Int) (cl wl : Nat) (wd : Int → Int) (st : Int) : Int × Int := (mc_ret c cl wl wd st (fun _ => 0), (mc_all c cl wl wd st (fun _ => 0)).2.2)
theorem mc_ev1 (c : Int → Int) (cl wl : Nat) (wd : Int → Int) (st : Int) (s : Int → Int) : mc_ret c cl wl wd st s = (mc_ev c cl wl wd st).1 := by
  unfold mc_ev mc_ret
  dsimp only
  split
  · rfl
  · obtain ⟨h1, h2, h3⟩ := mc_ind (c := c) (wd := wd) (cl := cl) (wl := wl) cl st 0 s (fun _ => 0) (fun i q1 q2 => by omega)
    unfold mc_val
    rw [← h1, ← h2]
    split
    · rfl
    · exact h3 0 (by omega) (by omega)
theorem mc_ev2 (c : Int → Int) (cl wl : Nat) (wd : Int → Int) (st : Int) (s : Int → Int) : (mc_all c cl wl wd st s).2.2 = (mc_ev c cl wl wd st).2 := by
  unfold mc_ev mc_all
  dsimp only
  split
  · rfl
  · exact (mc_ind (c := c) (wd := wd) (cl := cl) (wl := wl) cl st 0 s (fun _ => 0) (fun i q1 q2 => by omega)).2.1
theorem mc_run_bit {c wd : Int → Int} {cl wl : Int} : ∀ (n : Nat) (a top : Int) (s : Int → Int), (mc_run c cl wl wd n a top s).2.2 = 0 ∨ (mc_run c cl wl wd n a top s).2.2 = 1 := by
  intro n
  induction n with
  | zero => intro a top s; exact Or.inl rfl
  | succ n ih =>
    intro a top s
    rw [mc_run_s]
    split
    · exact Or.inl rfl
    split
    · exact Or.inl rfl
    split
    · split
      · exact Or.inr rfl
      · exact ih _ _ _
    split
    · exact Or.inr rfl
    split
    · exact ih _ _ _
    split
    · split
      · exact ih _ _ _
      · exact Or.inr rfl
    split
    · exact ih _ _ _
    · exact ih _ _ _
theorem mc_ev_bit (c : Int → Int) (cl wl : Nat) (wd : Int → Int) (st : Int) : (mc_ev c cl wl wd st).2 = 0 ∨ (mc_ev c cl wl wd st).2 = 1 := by
  unfold mc_ev mc_all
  dsimp only
  split
  · exact Or.inl rfl
  · exact mc_run_bit _ _ _ _
theorem im_ct_mono {ro : ab_R} {T : List im_T} {d j : Nat} {as : List im_V} {w : im_W} {Q Q' : Option im_V → im_W → Prop} (h : im_ct ro T d j as w Q) (k : ∀ v w, Q v w → Q' v w) : im_ct ro T d j as w Q' := by
  obtain ⟨v, w1, h1, h2, h3⟩ := h
  exact ⟨v, w1, h1, h2, k _ _ h3⟩
theorem c_val {ro : ab_R} {T : List im_T} {d : Nat} (hd : 2 ≤ d) (hT : T.length < 1000) {u : Int × Int × Int} {cl kl wl : Nat} {c k wd : Int → Int} {st : Int} (hst : -1 ≤ st ∧ st ≤ 1000) (hcl : cl ≤ 500) (hwl : wl ≤ 100) (hc : COK c) (hwd : WOK wd) {b : Int} (hb : b = 0 ∨ b = 1) {s : Int → Int} (hs : SOK s) : im_ct ro T d 18 [mr 0, mr 2, .inl st, mr 5] (MC 0 b s ++ XC 2 u cl c kl k ++ [.inr (0, wl, .inl wd)]) (fun r w => ∃ s', SOK s' ∧ r = some (.inl (mc_ev c cl wl wd st).1) ∧ w = MC 0 (mc_ev c cl wl wd st).2 s' ++ XC 2 u cl c kl k ++ [.inr (0, wl, .inl wd)] ∧ (-1000001000 ≤ (mc_ev c cl wl wd st).1 ∧ (mc_ev c cl wl wd st).1 ≤ 1000001000)) := by
  refine im_ct_mono (c_value hd hT hst hcl hwl hc hwd hb hs) (fun v w h => ?_)
  obtain ⟨rfl, rfl, h3⟩ := h
  refine ⟨(mc_all c cl wl wd st s).2.1, h3, by rw [mc_ev1], by rw [mc_ev2], ?_⟩
  rw [← mc_ev1 c cl wl wd st s]
  unfold mc_ret
  split
  · exact ⟨by decide, by decide⟩
  · rename_i hn
    unfold mc_all at h3
    rw [if_neg hn] at h3
    unfold mc_val
    split
    · exact ⟨by decide, by decide⟩
    · exact h3 0

