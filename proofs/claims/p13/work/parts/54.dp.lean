/-! the reference's day, walked -/
theorem km_arr_kx (p n c : Int) (v : Nat → Int) (R : Nat → Int → Int) (K : Int → Int) : MW (km_arr p n (pl_U v 31 c) (pl_U R 2 K)).1 (km_arr p n (pl_U v 31 c) (pl_U R 2 K)).2 = MW (pl_U v 31 (if K (71 + p) = -1 then c + n else c)) (pl_U R 2 (kx_arr (K (71 + p)) n K)) := by
  unfold km_arr kx_arr
  by_cases h : K (71 + p) = -1
  · rw [if_pos h, if_pos h, if_pos (show (pl_U R 2 K) 2 (71 + p) = -1 from h)]
    rfl
  · rw [if_neg h, if_neg h, if_neg (show ¬ (pl_U R 2 K) 2 (71 + p) = -1 from h)]
    rfl
section Dp
variable {ro : ab_R} {T : List im_T} {d : Nat} {v : Nat → Int} {R : Nat → Int → Int} {lv : Nat → Int} {L : Nat → Int → Int}
set_option maxHeartbeats 8000000 in
theorem m_day (hd : 3 ≤ d) (hT : T.length < 1000) (hr : KR (R 2) lv L) (hlo : LOK lv L) : im_ct ro T d 194 [mr 0] (MW v R) (fun r w => r = some (.inl (pl_day lv L).1) ∧ ∃ K' c', w = MW (pl_U v 31 c') (pl_U R 2 K') ∧ KR K' (pl_day lv L).2.1 (pl_day lv L).2.2 ∧ KFr (R 2) K' ∧ c' - v 31 = (pl_day lv L).2.1 6) := by
  obtain ⟨d, rfl⟩ : ∃ e, d = e + 1 := ⟨d - 1, by omega⟩
  have hgr := lk_grp hlo
  have hpar := lk_par hlo
  refine im_ct_of (own := 9) (ret := (some .int)) (code := ab_k_X9_dayPasses) (nL := 6) (L0 := [some (mr 0), none, none, none, none, none]) (n := 24) rfl rfl rfl rfl rfl rfl rfl rfl rfl ?_
  refine im_g 6 (y := (6, _, _, _)) rfl trivial ?_
  have key : ∀ (m k : Nat) (K : Int → Int) (left sum c : Int) (x4 x5 : Option im_V), (k : Int) + m = lv 1 → DYI lv L (R 2) (v 31) k K left sum c → im_wp ro (ab_Ev ro ab_codes d) 9 (some .int) ab_k_X9_dayPasses 24 T (fun r w => r = some (.inl (pl_day lv L).1) ∧ ∃ K' c', w = MW (pl_U v 31 c') (pl_U R 2 K') ∧ KR K' (pl_day lv L).2.1 (pl_day lv L).2.2 ∧ KFr (R 2) K' ∧ c' - v 31 = (pl_day lv L).2.1 6) (6, [some (mr 0), some (.inl sum), some (.inl left), some (.inl (k : Int)), x4, x5], [], MW (pl_U v 31 (c)) (pl_U R 2 (K))) := by
    intro m
    induction m with
    | zero =>
      intro k K left sum c x4 x5 hk hI
      have hpd := PDI_k hlo k (by omega)
      have hlf := hpd.2.2.2.2.1
      rw [← hI.2.2.2.2.2.1] at hlf
      have e68 : (pl_U R 2 K) 2 68 = lv 1 := hI.2.1
      obtain rfl : k = (lv 1).toNat := by omega
      have hkb : ((lv 1).toNat : Int) = lv 1 := by omega
      refine im_g 5 (y := (14, _, _, _)) rfl ⟨(by omega), trivial⟩ ?_
      refine im_bT rfl rfl ⟨(by first | (constructor <;> omega) | omega), (by first | (constructor <;> omega) | omega), trivial⟩ (by omega) ?_
      refine im_g 4 (y := (137, _, _, _)) rfl trivial ?_
      refine im_eqs (y := (137, [some (mr 0), some (.inl sum), some (.inl left), some (.inl (3 * left + ((0 : Nat) : Int))), x4, x5], [], MW (pl_U v 31 (c)) (pl_U R 2 (kd_zero left K 0)))) (by rw [show 3 * left + ((0 : Nat) : Int) = 3 * left by omega]; rfl) ?_
      refine im_for (48 - 3 * left).toNat (fun m => (137, [some (mr 0), some (.inl sum), some (.inl left), some (.inl (3 * left + (m : Int))), x4, x5], [], MW (pl_U v 31 (c)) (pl_U R 2 (kd_zero left K m)))) (fun m hm ih2 => ?_) ?_
      · refine im_g 2 (y := (140, _, _, _)) rfl trivial ?_
        refine im_bF rfl rfl ⟨(by omega), (by omega), trivial⟩ (by omega) ?_
        refine im_g 9 (y := (137, _, _, _)) rfl ⟨(by omega), trivial⟩ ?_
        refine im_eqs ?_ ih2
        show ((137, [some (mr 0), some (.inl sum), some (.inl left), some (.inl (3 * left + (m : Int) + 1)), x4, x5], [], MW (pl_U v 31 (c)) (pl_U R 2 (kd_zero left K (m + 1)))) : im_S) = _
        rw [show 3 * left + (m : Int) + 1 = 3 * left + ((m + 1 : Nat) : Int) by omega]
      · have hend := DYI_end hlo hI (m := (48 - 3 * left).toNat) (by omega)
        refine im_g 2 (y := (140, _, _, _)) rfl trivial ?_
        refine im_bT rfl rfl ⟨(by omega), (by omega), trivial⟩ (by omega) ?_
        refine im_g 14 (y := (179, _, _, _)) rfl ⟨(by omega), (by omega), (by omega), trivial⟩ ?_
        refine im_r rfl rfl trivial rfl ?_
        refine ⟨congrArg (fun z => some (Sum.inl z)) hend.2.2.1, _, c, rfl, hend.1, hend.2.1, hend.2.2.2⟩
    | succ m ih =>
      intro k K left sum c x4 x5 hk hI
      have hpd := PDI_k hlo k (by omega)
      have hlf := hpd.2.2.2.2.1
      rw [← hI.2.2.2.2.2.1] at hlf
      have e68 : (pl_U R 2 K) 2 68 = lv 1 := hI.2.1
      have hliv := lk_liv hlo (g := (k : Int)) (by omega) (by omega)
      have hKG := hI.2.2.1 k (by omega) (by omega)
      obtain ⟨e4, e5, e6⟩ := hpd.2.2.2.2.2.2.2.2.2.2.1 k (Int.le_refl _)
      have hfb := lk_frm hlo (k : Int)
      have hsb := lk_siz hlo (k : Int)
      have hlb := lk_lef hlo (k : Int)
      have el : kd_less k K (20 + 3 * (k : Int) + 2) = L 6 k - 1 := by
        unfold kd_less
        rw [im_up_self, hKG.2.2, e6]
      have ef : kd_less k K (20 + 3 * (k : Int)) = L 4 k := by
        unfold kd_less
        rw [im_up_ne _ _ (by omega), hKG.1, e4]
      have en : kd_less k K (20 + 3 * (k : Int) + 1) = L 5 k := by
        unfold kd_less
        rw [im_up_ne _ _ (by omega), hKG.2.1, e5]
      refine im_g 5 (y := (14, _, _, _)) rfl ⟨(by omega), trivial⟩ ?_
      refine im_bF rfl rfl ⟨(by first | (constructor <;> omega) | omega), (by first | (constructor <;> omega) | omega), trivial⟩ (by omega) ?_
      refine im_g 22 (y := (47, _, _, _)) rfl ⟨(by omega), (by omega), (by omega), trivial⟩ ?_
      refine im_b rfl rfl ⟨(by show im_ir (kd_less k K (20 + 3 * (k : Int) + 2)); constructor <;> omega), trivial⟩ (fun br1 => ?_) (fun br1 => ?_)
      · have hzz : ¬ kd_less k K (20 + 3 * (k : Int) + 2) = 0 := br1
        refine im_g 2 (y := (88, _, _, _)) rfl trivial ?_
        refine im_g 2 (y := (91, _, _, _)) rfl trivial ?_
        refine im_bF rfl rfl ⟨(by omega), (by omega), trivial⟩ (by decide) ?_
        refine im_g 18 (y := (88, _, _, _)) rfl ⟨(by omega), (by omega), trivial⟩ ?_
        refine im_g 2 (y := (91, _, _, _)) rfl trivial ?_
        refine im_bF rfl rfl ⟨(by omega), (by omega), trivial⟩ (by decide) ?_
        refine im_g 18 (y := (88, _, _, _)) rfl ⟨(by omega), (by omega), trivial⟩ ?_
        refine im_g 2 (y := (91, _, _, _)) rfl trivial ?_
        refine im_bF rfl rfl ⟨(by omega), (by omega), trivial⟩ (by decide) ?_
        refine im_g 18 (y := (88, _, _, _)) rfl ⟨(by omega), (by omega), trivial⟩ ?_
        refine im_g 2 (y := (91, _, _, _)) rfl trivial ?_
        refine im_bT rfl rfl ⟨(by omega), (by omega), trivial⟩ (by decide) ?_
        refine im_g 3 (y := (6, _, _, _)) rfl trivial ?_
        exact ih (k + 1) (kd_copy k left (kd_less k K)) (left + 1) sum c _ _ (by omega) (DYI_stay hI hpd (by omega) hgr.2 hliv.2.2 hzz)
      · have hzz : kd_less k K (20 + 3 * (k : Int) + 2) = 0 := Classical.not_not.mp br1
        have hKX := KX_grp (K' := kd_less k K) (L' := (pl_dy lv L k).2.1) hI.1 (fun i hi => im_up_ne K _ (by omega)) ⟨rfl, rfl, rfl, rfl, rfl, rfl, rfl⟩
        have hbl := (hKX.2.2.1 (L 4 k) (by omega) (by omega)).1
        rw [hpd.2.2.2.2.2.1.1] at hbl
        have hbb := lk_bel hlo (L 4 k)
        have hse := hKX.1.2.1
        have hsb2 := hpd.2.1
        have hcc : ∀ p, 0 ≤ p → p < 10 → 0 ≤ kd_less k K (0 + p) ∧ kd_less k K (0 + p) ≤ 999 := by
          intro p q1 q2
          rw [(hKX.2.2.1 p q1 q2).2.2.1]
          exact hpd.2.2.2.2.2.2.1 p
        refine im_g 20 (y := (79, _, _, _)) rfl ⟨(by omega), (by omega), (by omega), trivial⟩ ?_
        refine im_cM rfl rfl (m_arrives (v := pl_U v 31 c) (R := pl_U R 2 (kd_less k K)) (p := kd_less k K (20 + 3 * (k : Int))) (n := kd_less k K (20 + 3 * (k : Int) + 1)) (by omega) hT (by omega) (by omega) (by rw [ef]; show -1 ≤ kd_less k K (71 + L 4 k) ∧ kd_less k K (71 + L 4 k) ≤ 9; rw [hbl]; exact hbb) (by show 0 ≤ kd_less k K 69 ∧ kd_less k K 69 ≤ 99999; rw [hse]; exact hsb2) hcc) rfl hT (fun v1 w1 hq => ?_)
        obtain ⟨rfl, rfl⟩ := hq
        refine ⟨(km_arr (kd_less k K (20 + 3 * (k : Int))) (kd_less k K (20 + 3 * (k : Int) + 1)) (pl_U v 31 c) (pl_U R 2 (kd_less k K))).1, (km_arr (kd_less k K (20 + 3 * (k : Int))) (kd_less k K (20 + 3 * (k : Int) + 1)) (pl_U v 31 c) (pl_U R 2 (kd_less k K))).2, rfl, rfl, ?_⟩
        rw [km_arr_kx]
        refine im_g 3 (y := (6, _, _, _)) rfl trivial ?_
        exact ih (k + 1) _ left _ _ _ _ (by omega) (DYI_go hI hpd hlo (by omega) hliv.2.2 hzz)
  exact key (lv 1).toNat 0 (R 2) 0 0 (v 31) _ _ (by omega) (DYI_0 hr (v 31))
end Dp
