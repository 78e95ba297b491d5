/-! the reference: all at once -/
def AW (v : Nat → Int) (R : Nat → Int → Int) (g ge b o c : Int) (a s ov K : Int → Int) : im_W := MW (pl_U (EV4 v g ge b o) 31 c) (pl_U (pl_U (pl_U (pl_U R 12 a) 16 s) 17 ov) 2 K)
theorem AW_tls {v : Nat → Int} {R : Nat → Int → Int} {lv : Nat → Int} {L : Nat → Int → Int} {lw : Option im_T} (ht : TLS v R lv L lw) {m : Nat} {K : Int → Int} {c b : Int} {s o : Int → Int} (h : AI lw (v 30) lv L (R 2) m K c s o b) (g ge b4 o4 c4 : Int) (a s4 ov4 : Int → Int) : TLS (pl_U (EV4 v g ge b4 o4) 31 c4) (pl_U (pl_U (pl_U (pl_U R 12 a) 16 s4) 17 ov4) 2 K) (ao lw (v 30) (lv 0) m (ao_0 lv L)).1 (ao lw (v 30) (lv 0) m (ao_0 lv L)).2.1 lw := by
  obtain ⟨h1, h2, h3, h4, h5, h6⟩ := ht
  have hA := AOI_m (lw := lw) (ten := v 30) (AOI_0 h2) m
  have hf : ∀ i, 71 ≤ i → K i = R 2 i := fun i hi => h.2.1 i (Or.inr hi)
  refine ⟨h.1, hA.1, ?_, KT_fr h4 hf, ?_, h6⟩
  · rw [hA.2.2.2.1.2]
    exact h3
  · rw [hA.2.1.2]
    exact KLW_fr h5 hf
section Al
variable {ro : ab_R} {T : List im_T} {d : Nat} {v : Nat → Int} {R : Nat → Int → Int} {lv : Nat → Int} {L : Nat → Int → Int} {lw : Option im_T}
theorem km_arr_AW (p n c : Int) (v : Nat → Int) (R : Nat → Int → Int) (g ge b o : Int) (a s ov K : Int → Int) : MW (km_arr p n (pl_U (EV4 v g ge b o) 31 c) (pl_U (pl_U (pl_U (pl_U R 12 a) 16 s) 17 ov) 2 K)).1 (km_arr p n (pl_U (EV4 v g ge b o) 31 c) (pl_U (pl_U (pl_U (pl_U R 12 a) 16 s) 17 ov) 2 K)).2 = AW v R g ge b o (if K (71 + p) = -1 then c + n else c) a s ov (kx_arr (K (71 + p)) n K) := km_arr_kx p n c (EV4 v g ge b o) (pl_U (pl_U (pl_U R 12 a) 16 s) 17 ov) K
set_option maxHeartbeats 8000000 in
theorem m_allOnce (hd : 82 ≤ d) (hT : T.length < 1000) (ht : TLS v R lv L lw) : im_ct ro T d 207 [mr 0] (MW v R) (fun r w => r = some (.inl ((ao lw (v 30) (lv 0) (lv 0).toNat (ao_0 lv L)).1 6)) ∧ ∃ g ge b o c a s ov K, w = AW v R g ge b o c a s ov K ∧ (∀ i, (i < 0 ∨ 71 ≤ i) → K i = R 2 i) ∧ ∀ p, 0 ≤ p → p < lv 0 → ov p = (ao lw (v 30) (lv 0) (lv 0).toNat (ao_0 lv L)).2.2.1 p ∧ s p = (ao lw (v 30) (lv 0) (lv 0).toNat (ao_0 lv L)).2.2.2 p) := by
  obtain ⟨d, rfl⟩ : ∃ e, d = e + 1 := ⟨d - 1, by omega⟩
  have hpar := lk_par ht.2.1
  refine im_ct_of (own := 9) (ret := (some .int)) (code := ab_k_X9_allOnce) (nL := 3) (L0 := [some (mr 0), none, none]) (n := 24) rfl rfl rfl rfl rfl rfl rfl rfl rfl ?_
  refine im_g 12 (y := (17, _, _, _)) rfl ⟨(by omega), trivial⟩ ?_
  have key2 : ∀ (K : Int → Int) (c b : Int) (s o : Int → Int), AI lw (v 30) lv L (R 2) (lv 0).toNat K c s o b → ∀ (n k : Nat) (g ge b4 o4 : Int) (a ov : Int → Int), (k : Int) + n = lv 0 → (∀ p, 0 ≤ p → p < lv 0 → ov p = (ao lw (v 30) (lv 0) (lv 0).toNat (ao_0 lv L)).2.2.1 p) → im_wp ro (ab_Ev ro ab_codes d) 9 (some .int) ab_k_X9_allOnce 24 T (fun r w => r = some (.inl ((ao lw (v 30) (lv 0) (lv 0).toNat (ao_0 lv L)).1 6)) ∧ ∃ g ge b o c a s ov K, w = AW v R g ge b o c a s ov K ∧ (∀ i, (i < 0 ∨ 71 ≤ i) → K i = R 2 i) ∧ ∀ p, 0 ≤ p → p < lv 0 → ov p = (ao lw (v 30) (lv 0) (lv 0).toNat (ao_0 lv L)).2.2.1 p ∧ s p = (ao lw (v 30) (lv 0) (lv 0).toNat (ao_0 lv L)).2.2.2 p) (97, [some (mr 0), some (.inl b), some (.inl (k : Int))], [], AW v R g ge b4 o4 c a s ov K) := by
    intro K c b s o hI n
    have hK0 := KT_ir hI.1 (AOI_m (lw := lw) (ten := v 30) (AOI_0 ht.2.1) (lv 0).toNat).1
    have e110 : K 110 = lv 0 := hI.1.1.1.trans (AOI_m (lw := lw) (ten := v 30) (AOI_0 ht.2.1) (lv 0).toNat).2.1.1
    induction n with
    | zero =>
      intro k g ge b4 o4 a ov hk ho
      have eR : (pl_U (pl_U (pl_U (pl_U R 12 a) 16 s) 17 ov) 2 K) 2 110 = lv 0 := e110
      refine im_g 5 (y := (105, _, _, _)) rfl ⟨(by omega), trivial⟩ ?_
      refine im_bT rfl rfl ⟨(by first | (constructor <;> omega) | omega), (by first | (constructor <;> omega) | omega), trivial⟩ (by omega) ?_
      refine im_g 2 (y := (137, _, _, _)) rfl trivial ?_
      refine im_r rfl rfl trivial rfl ?_
      refine ⟨congrArg (fun z => some (Sum.inl z)) hI.2.2.1, g, ge, b4, o4, c, a, s, ov, K, rfl, hI.2.1, fun p h1 h2 => ⟨ho p h1 h2, (hI.2.2.2.1 p (by omega) h2).2⟩⟩
    | succ n ih =>
      intro k g ge b4 o4 a ov hk ho
      have eR : (pl_U (pl_U (pl_U (pl_U R 12 a) 16 s) 17 ov) 2 K) 2 110 = lv 0 := e110
      have hp10 : 0 ≤ (k : Int) ∧ (k : Int) < 10 := by omega
      refine im_g 5 (y := (105, _, _, _)) rfl ⟨(by omega), trivial⟩ ?_
      refine im_bF rfl rfl ⟨(by first | (constructor <;> omega) | omega), (by first | (constructor <;> omega) | omega), trivial⟩ (by omega) ?_
      refine im_g 2 (y := (110, _, _, _)) rfl trivial ?_
      refine im_call [] rfl rfl (m_isIn (a := b) (b := (k : Int)) (by omega) hT) rfl rfl rfl (by decide) rfl (by decide) hT (fun v1 w1 hq => ?_)
      obtain ⟨rfl, rfl⟩ := hq
      refine ⟨_, _, AW v R g ge b4 o4 c a s ov K, rfl, rfl, rfl, ?_⟩
      refine im_b rfl rfl ⟨(by omega), trivial⟩ (fun br1 => ?_) (fun br1 => ?_)
      · have c113 : ¬ (im_and (im_shr b (k : Int)) 1 = 1) := by
          intro hh
          rw [if_pos hh] at br1
          exact absurd br1 (by decide)
        clear br1
        refine im_g 2 (y := (97, _, _, _)) rfl trivial ?_
        exact ih (k + 1) g ge b4 o4 a ov (by omega) ho
      · have c113 : im_and (im_shr b (k : Int)) 1 = 1 := by
          by_cases hh : im_and (im_shr b (k : Int)) 1 = 1
          · exact hh
          · rw [if_neg hh] at br1; exact absurd rfl br1
        clear br1
        have hbt : BT b k := by unfold BT; omega
        have hov := (hI.2.2.2.2.2 k (by omega) (by omega) hbt).2
        refine im_g 5 (y := (123, _, _, _)) rfl trivial ?_
        refine im_cM rfl rfl (show im_ct ro T d 185 [mr 0, .inl ((k : Int))] (MW (pl_U (EV4 v g ge b4 o4) 31 c) (pl_U (pl_U (pl_U (pl_U R 12 a) 16 s) 17 ov) 2 K)) (fun r w => r = some (.inl (as_over lw (k : Int) (v 30) (ao lw (v 30) (lv 0) (lv 0).toNat (ao_0 lv L)).2.1)) ∧ QS (pl_U (EV4 v g ge b4 o4) 31 c) (pl_U (pl_U (pl_U (pl_U R 12 a) 16 s) 17 ov) 2 K) w) from m_over (v := (pl_U (EV4 v g ge b4 o4) 31 c)) (R := (pl_U (pl_U (pl_U (pl_U R 12 a) 16 s) 17 ov) 2 K)) (lv := (ao lw (v 30) (lv 0) (lv 0).toNat (ao_0 lv L)).1) (L := (ao lw (v 30) (lv 0) (lv 0).toNat (ao_0 lv L)).2.1) (lw := lw) (by omega) hT (AW_tls ht hI g ge b4 o4 c a s ov) hp10) rfl hT (fun v1 w1 hq => ?_)
        obtain ⟨rfl, g1, ge1, b1, o1, a1, rfl⟩ := hq
        refine ⟨(EV4 (pl_U (EV4 v g ge b4 o4) 31 c) g1 ge1 b1 o1), (pl_U (pl_U (pl_U (pl_U (pl_U R 12 a) 16 s) 17 ov) 2 K) 12 a1), rfl, rfl, ?_⟩
        refine im_g 3 (y := (97, _, _, _)) rfl ⟨(by omega), trivial⟩ ?_
        exact ih (k + 1) g1 ge1 b1 o1 a1 (im_up ov k (as_over lw k (v 30) (ao lw (v 30) (lv 0) (lv 0).toNat (ao_0 lv L)).2.1)) (by omega) (fun p h1 h2 => by unfold im_up; split; (rename_i e; rw [e]; exact hov); exact ho p h1 h2)
  have key : ∀ (n m : Nat) (K : Int → Int) (c b : Int) (s ov : Int → Int) (g ge b4 o4 : Int) (a : Int → Int), (m : Int) + n = lv 0 → AI lw (v 30) lv L (R 2) m K c s ov b → im_wp ro (ab_Ev ro ab_codes d) 9 (some .int) ab_k_X9_allOnce 24 T (fun r w => r = some (.inl ((ao lw (v 30) (lv 0) (lv 0).toNat (ao_0 lv L)).1 6)) ∧ ∃ g ge b o c a s ov K, w = AW v R g ge b o c a s ov K ∧ (∀ i, (i < 0 ∨ 71 ≤ i) → K i = R 2 i) ∧ ∀ p, 0 ≤ p → p < lv 0 → ov p = (ao lw (v 30) (lv 0) (lv 0).toNat (ao_0 lv L)).2.2.1 p ∧ s p = (ao lw (v 30) (lv 0) (lv 0).toNat (ao_0 lv L)).2.2.2 p) (17, [some (mr 0), some (.inl b), some (.inl (lv 0 - 1 - (m : Int)))], [], AW v R g ge b4 o4 c a s ov K) := by
    intro n
    induction n with
    | zero =>
      intro m K c b s ov g ge b4 o4 a hm hI
      obtain rfl : m = (lv 0).toNat := by omega
      refine im_g 1 (y := (18, _, _, _)) rfl trivial ?_
      refine im_bT rfl rfl ⟨(by omega), trivial⟩ (by omega) ?_
      refine im_g 2 (y := (97, _, _, _)) rfl trivial ?_
      exact key2 K c b s ov hI (lv 0).toNat 0 g ge b4 o4 a ov (by omega) (fun p h1 h2 => (hI.2.2.2.1 p (by omega) h2).1)
    | succ n ih =>
      intro m K c b s ov g ge b4 o4 a hm hI
      have hA := AOI_m (lw := lw) (ten := v 30) (AOI_0 ht.2.1) m
      have hp10 : 0 ≤ lv 0 - 1 - (m : Int) ∧ lv 0 - 1 - (m : Int) < 10 := by omega
      have hkp := KR_p hI.1 hA.1 (lv 0 - 1 - (m : Int)) hp10.1 hp10.2
      have hob := as_over_b lw (lv 0 - 1 - (m : Int)) (v 30) (ao lw (v 30) (lv 0) m (ao_0 lv L)).2.1
      have hsb := as_stay_b lw (lv 0 - 1 - (m : Int)) (v 30) (ao lw (v 30) (lv 0) m (ao_0 lv L)).2.1
      have hbb := as_bar_b lw (lv 0 - 1 - (m : Int)) (v 30) (ao lw (v 30) (lv 0) m (ao_0 lv L)).2.1
      have hki := KT_ir hI.1 hA.1
      refine im_g 1 (y := (18, _, _, _)) rfl trivial ?_
      refine im_bF rfl rfl ⟨(by omega), trivial⟩ (by omega) ?_
      refine im_g 10 (y := (35, _, _, _)) rfl ⟨(by omega), trivial⟩ ?_
      refine im_cM rfl rfl (show im_ct ro T d 185 [mr 0, .inl (lv 0 - 1 - (m : Int))] (MW (pl_U (EV4 v g ge b4 o4) 31 c) (pl_U (pl_U (pl_U (pl_U R 12 a) 16 (im_up s (lv 0 - 1 - (m : Int)) 0)) 17 ov) 2 K)) (fun r w => r = some (.inl (as_over lw (lv 0 - 1 - (m : Int)) (v 30) (ao lw (v 30) (lv 0) m (ao_0 lv L)).2.1)) ∧ QS (pl_U (EV4 v g ge b4 o4) 31 c) (pl_U (pl_U (pl_U (pl_U R 12 a) 16 (im_up s (lv 0 - 1 - (m : Int)) 0)) 17 ov) 2 K) w) from m_over (v := (pl_U (EV4 v g ge b4 o4) 31 c)) (R := (pl_U (pl_U (pl_U (pl_U R 12 a) 16 (im_up s (lv 0 - 1 - (m : Int)) 0)) 17 ov) 2 K)) (lv := (ao lw (v 30) (lv 0) m (ao_0 lv L)).1) (L := (ao lw (v 30) (lv 0) m (ao_0 lv L)).2.1) (lw := lw) (by omega) hT (AW_tls ht hI g ge b4 o4 c a (im_up s (lv 0 - 1 - (m : Int)) 0) ov) hp10) rfl hT (fun v1 w1 hq => ?_)
      obtain ⟨rfl, g1, ge1, b1, o1, a1, rfl⟩ := hq
      refine ⟨(EV4 (pl_U (EV4 v g ge b4 o4) 31 c) g1 ge1 b1 o1), (pl_U (pl_U (pl_U (pl_U (pl_U R 12 a) 16 (im_up s (lv 0 - 1 - (m : Int)) 0)) 17 ov) 2 K) 12 a1), rfl, rfl, ?_⟩
      refine im_g 3 (y := (41, _, _, _)) rfl ⟨(by omega), trivial⟩ ?_
      refine im_cM rfl rfl (show im_ct ro T d 188 [mr 0, .inl (lv 0 - 1 - (m : Int))] (MW (pl_U (EV4 v g1 ge1 b1 o1) 31 c) (pl_U (pl_U (pl_U (pl_U R 12 a1) 16 (im_up s (lv 0 - 1 - (m : Int)) 0)) 17 (im_up ov (lv 0 - 1 - (m : Int)) (as_over lw (lv 0 - 1 - (m : Int)) (v 30) (ao lw (v 30) (lv 0) m (ao_0 lv L)).2.1))) 2 K)) (fun r w => r = some (.inl (as_bar lw (lv 0 - 1 - (m : Int)) (v 30) (ao lw (v 30) (lv 0) m (ao_0 lv L)).2.1)) ∧ QS (pl_U (EV4 v g1 ge1 b1 o1) 31 c) (pl_U (pl_U (pl_U (pl_U R 12 a1) 16 (im_up s (lv 0 - 1 - (m : Int)) 0)) 17 (im_up ov (lv 0 - 1 - (m : Int)) (as_over lw (lv 0 - 1 - (m : Int)) (v 30) (ao lw (v 30) (lv 0) m (ao_0 lv L)).2.1))) 2 K) w) from m_barred (v := (pl_U (EV4 v g1 ge1 b1 o1) 31 c)) (R := (pl_U (pl_U (pl_U (pl_U R 12 a1) 16 (im_up s (lv 0 - 1 - (m : Int)) 0)) 17 (im_up ov (lv 0 - 1 - (m : Int)) (as_over lw (lv 0 - 1 - (m : Int)) (v 30) (ao lw (v 30) (lv 0) m (ao_0 lv L)).2.1))) 2 K)) (lv := (ao lw (v 30) (lv 0) m (ao_0 lv L)).1) (L := (ao lw (v 30) (lv 0) m (ao_0 lv L)).2.1) (lw := lw) (by omega) hT (AW_tls ht hI g1 ge1 b1 o1 c a1 (im_up s (lv 0 - 1 - (m : Int)) 0) (im_up ov (lv 0 - 1 - (m : Int)) (as_over lw (lv 0 - 1 - (m : Int)) (v 30) (ao lw (v 30) (lv 0) m (ao_0 lv L)).2.1))) hp10) rfl hT (fun v1 w1 hq => ?_)
      obtain ⟨rfl, g2, ge2, b2, o2, a2, rfl⟩ := hq
      refine ⟨(EV4 (pl_U (EV4 v g1 ge1 b1 o1) 31 c) g2 ge2 b2 o2), (pl_U (pl_U (pl_U (pl_U (pl_U R 12 a1) 16 (im_up s (lv 0 - 1 - (m : Int)) 0)) 17 (im_up ov (lv 0 - 1 - (m : Int)) (as_over lw (lv 0 - 1 - (m : Int)) (v 30) (ao lw (v 30) (lv 0) m (ao_0 lv L)).2.1))) 2 K) 12 a2), rfl, rfl, ?_⟩
      refine im_b rfl rfl ⟨(by omega), trivial⟩ (fun br1 => ?_) (fun br1 => ?_)
      · refine im_g 5 (y := (63, _, _, _)) rfl trivial ?_
        refine im_cM rfl rfl (show im_ct ro T d 186 [mr 0, .inl (lv 0 - 1 - (m : Int))] (MW (pl_U (EV4 v g2 ge2 b2 o2) 31 c) (pl_U (pl_U (pl_U (pl_U R 12 a2) 16 (im_up s (lv 0 - 1 - (m : Int)) 0)) 17 (im_up ov (lv 0 - 1 - (m : Int)) (as_over lw (lv 0 - 1 - (m : Int)) (v 30) (ao lw (v 30) (lv 0) m (ao_0 lv L)).2.1))) 2 K)) (fun r w => r = some (.inl ((as_over lw (lv 0 - 1 - (m : Int)) (v 30) (ao lw (v 30) (lv 0) m (ao_0 lv L)).2.1 - as_stay lw (lv 0 - 1 - (m : Int)) (v 30) (ao lw (v 30) (lv 0) m (ao_0 lv L)).2.1))) ∧ QS (pl_U (EV4 v g2 ge2 b2 o2) 31 c) (pl_U (pl_U (pl_U (pl_U R 12 a2) 16 (im_up s (lv 0 - 1 - (m : Int)) 0)) 17 (im_up ov (lv 0 - 1 - (m : Int)) (as_over lw (lv 0 - 1 - (m : Int)) (v 30) (ao lw (v 30) (lv 0) m (ao_0 lv L)).2.1))) 2 K) w) from m_walkers (v := (pl_U (EV4 v g2 ge2 b2 o2) 31 c)) (R := (pl_U (pl_U (pl_U (pl_U R 12 a2) 16 (im_up s (lv 0 - 1 - (m : Int)) 0)) 17 (im_up ov (lv 0 - 1 - (m : Int)) (as_over lw (lv 0 - 1 - (m : Int)) (v 30) (ao lw (v 30) (lv 0) m (ao_0 lv L)).2.1))) 2 K)) (lv := (ao lw (v 30) (lv 0) m (ao_0 lv L)).1) (L := (ao lw (v 30) (lv 0) m (ao_0 lv L)).2.1) (lw := lw) (by omega) hT (AW_tls ht hI g2 ge2 b2 o2 c a2 (im_up s (lv 0 - 1 - (m : Int)) 0) (im_up ov (lv 0 - 1 - (m : Int)) (as_over lw (lv 0 - 1 - (m : Int)) (v 30) (ao lw (v 30) (lv 0) m (ao_0 lv L)).2.1))) hp10) rfl hT (fun v1 w1 hq => ?_)
        obtain ⟨rfl, g3, ge3, b3, o3, a3, rfl⟩ := hq
        refine ⟨(EV4 (pl_U (EV4 v g2 ge2 b2 o2) 31 c) g3 ge3 b3 o3), (pl_U (pl_U (pl_U (pl_U (pl_U R 12 a2) 16 (im_up s (lv 0 - 1 - (m : Int)) 0)) 17 (im_up ov (lv 0 - 1 - (m : Int)) (as_over lw (lv 0 - 1 - (m : Int)) (v 30) (ao lw (v 30) (lv 0) m (ao_0 lv L)).2.1))) 2 K) 12 a3), rfl, rfl, ?_⟩
        refine im_g 1 (y := (67, _, _, _)) rfl ⟨(by omega), trivial⟩ ?_
        have esw0 : (im_up (im_up s (lv 0 - 1 - (m : Int)) 0) (lv 0 - 1 - (m : Int)) (as_over lw (lv 0 - 1 - (m : Int)) (v 30) (ao lw (v 30) (lv 0) m (ao_0 lv L)).2.1 - as_stay lw (lv 0 - 1 - (m : Int)) (v 30) (ao lw (v 30) (lv 0) m (ao_0 lv L)).2.1)) (lv 0 - 1 - (m : Int)) = (as_over lw (lv 0 - 1 - (m : Int)) (v 30) (ao lw (v 30) (lv 0) m (ao_0 lv L)).2.1 - as_stay lw (lv 0 - 1 - (m : Int)) (v 30) (ao lw (v 30) (lv 0) m (ao_0 lv L)).2.1) := im_up_self _ _ _
        have hq1 : -1 ≤ (kp_off (lv 0 - 1 - (m : Int)) (as_over lw (lv 0 - 1 - (m : Int)) (v 30) (ao lw (v 30) (lv 0) m (ao_0 lv L)).2.1 - as_stay lw (lv 0 - 1 - (m : Int)) (v 30) (ao lw (v 30) (lv 0) m (ao_0 lv L)).2.1) K) (71 + (lv 0 - 1 - (m : Int))) ∧ (kp_off (lv 0 - 1 - (m : Int)) (as_over lw (lv 0 - 1 - (m : Int)) (v 30) (ao lw (v 30) (lv 0) m (ao_0 lv L)).2.1 - as_stay lw (lv 0 - 1 - (m : Int)) (v 30) (ao lw (v 30) (lv 0) m (ao_0 lv L)).2.1) K) (71 + (lv 0 - 1 - (m : Int))) ≤ 9 := by rw [kp_off_far _ _ _ (by omega) (by omega)]; exact hkp.1
        have hq2 : 0 ≤ (kp_off (lv 0 - 1 - (m : Int)) (as_over lw (lv 0 - 1 - (m : Int)) (v 30) (ao lw (v 30) (lv 0) m (ao_0 lv L)).2.1 - as_stay lw (lv 0 - 1 - (m : Int)) (v 30) (ao lw (v 30) (lv 0) m (ao_0 lv L)).2.1) K) 69 ∧ (kp_off (lv 0 - 1 - (m : Int)) (as_over lw (lv 0 - 1 - (m : Int)) (v 30) (ao lw (v 30) (lv 0) m (ao_0 lv L)).2.1 - as_stay lw (lv 0 - 1 - (m : Int)) (v 30) (ao lw (v 30) (lv 0) m (ao_0 lv L)).2.1) K) 69 ≤ 99999 := by rw [kp_off_far _ _ _ (by omega) (by omega)]; exact hki.2.2.1
        have hKo := KR_off hI.1 (p := lv 0 - 1 - (m : Int)) (n := (as_over lw (lv 0 - 1 - (m : Int)) (v 30) (ao lw (v 30) (lv 0) m (ao_0 lv L)).2.1 - as_stay lw (lv 0 - 1 - (m : Int)) (v 30) (ao lw (v 30) (lv 0) m (ao_0 lv L)).2.1)) (by rw [hA.2.1.1]; omega)
        have hle := as_over_le lw hA.1 (lv 0 - 1 - (m : Int)) (v 30)
        have hlk := LOK_leave (p := lv 0 - 1 - (m : Int)) (n := (as_over lw (lv 0 - 1 - (m : Int)) (v 30) (ao lw (v 30) (lv 0) m (ao_0 lv L)).2.1 - as_stay lw (lv 0 - 1 - (m : Int)) (v 30) (ao lw (v 30) (lv 0) m (ao_0 lv L)).2.1)) hA.1 (by omega)
        have hq3 : ∀ x, 0 ≤ x → x < 10 → 0 ≤ (kp_off (lv 0 - 1 - (m : Int)) (as_over lw (lv 0 - 1 - (m : Int)) (v 30) (ao lw (v 30) (lv 0) m (ao_0 lv L)).2.1 - as_stay lw (lv 0 - 1 - (m : Int)) (v 30) (ao lw (v 30) (lv 0) m (ao_0 lv L)).2.1) K) (0 + x) ∧ (kp_off (lv 0 - 1 - (m : Int)) (as_over lw (lv 0 - 1 - (m : Int)) (v 30) (ao lw (v 30) (lv 0) m (ao_0 lv L)).2.1 - as_stay lw (lv 0 - 1 - (m : Int)) (v 30) (ao lw (v 30) (lv 0) m (ao_0 lv L)).2.1) K) (0 + x) ≤ 999 := fun x h1 h2 => (KR_p hKo hlk x h1 h2).2.2.1
        refine im_g 6 (y := (75, _, _, _)) rfl ⟨(by omega), trivial⟩ ?_
        refine im_cM rfl rfl (m_walksOff (v := (pl_U (EV4 v g3 ge3 b3 o3) 31 c)) (R := (pl_U (pl_U (pl_U (pl_U R 12 a3) 16 (im_up (im_up s (lv 0 - 1 - (m : Int)) 0) (lv 0 - 1 - (m : Int)) (as_over lw (lv 0 - 1 - (m : Int)) (v 30) (ao lw (v 30) (lv 0) m (ao_0 lv L)).2.1 - as_stay lw (lv 0 - 1 - (m : Int)) (v 30) (ao lw (v 30) (lv 0) m (ao_0 lv L)).2.1))) 17 (im_up ov (lv 0 - 1 - (m : Int)) (as_over lw (lv 0 - 1 - (m : Int)) (v 30) (ao lw (v 30) (lv 0) m (ao_0 lv L)).2.1))) 2 K)) (p := lv 0 - 1 - (m : Int)) (n := (im_up (im_up s (lv 0 - 1 - (m : Int)) 0) (lv 0 - 1 - (m : Int)) (as_over lw (lv 0 - 1 - (m : Int)) (v 30) (ao lw (v 30) (lv 0) m (ao_0 lv L)).2.1 - as_stay lw (lv 0 - 1 - (m : Int)) (v 30) (ao lw (v 30) (lv 0) m (ao_0 lv L)).2.1)) (lv 0 - 1 - (m : Int))) (by omega) hT (by omega) (by rw [esw0]; omega) hkp.2.2.2) rfl hT (fun v1 w1 hq => ?_)
        obtain ⟨rfl, rfl⟩ := hq
        refine ⟨(pl_U (EV4 v g3 ge3 b3 o3) 31 c), (pl_U (pl_U (pl_U (pl_U (pl_U R 12 a3) 16 (im_up (im_up s (lv 0 - 1 - (m : Int)) 0) (lv 0 - 1 - (m : Int)) (as_over lw (lv 0 - 1 - (m : Int)) (v 30) (ao lw (v 30) (lv 0) m (ao_0 lv L)).2.1 - as_stay lw (lv 0 - 1 - (m : Int)) (v 30) (ao lw (v 30) (lv 0) m (ao_0 lv L)).2.1))) 17 (im_up ov (lv 0 - 1 - (m : Int)) (as_over lw (lv 0 - 1 - (m : Int)) (v 30) (ao lw (v 30) (lv 0) m (ao_0 lv L)).2.1))) 2 K) 2 (kp_off (lv 0 - 1 - (m : Int)) ((im_up (im_up s (lv 0 - 1 - (m : Int)) 0) (lv 0 - 1 - (m : Int)) (as_over lw (lv 0 - 1 - (m : Int)) (v 30) (ao lw (v 30) (lv 0) m (ao_0 lv L)).2.1 - as_stay lw (lv 0 - 1 - (m : Int)) (v 30) (ao lw (v 30) (lv 0) m (ao_0 lv L)).2.1)) (lv 0 - 1 - (m : Int))) K)), rfl, rfl, ?_⟩
        rw [esw0]
        refine im_g 6 (y := (86, _, _, _)) rfl ⟨(by omega), trivial⟩ ?_
        refine im_cM rfl rfl (m_arrives (v := (pl_U (EV4 v g3 ge3 b3 o3) 31 c)) (R := (pl_U (pl_U (pl_U (pl_U R 12 a3) 16 (im_up (im_up s (lv 0 - 1 - (m : Int)) 0) (lv 0 - 1 - (m : Int)) (as_over lw (lv 0 - 1 - (m : Int)) (v 30) (ao lw (v 30) (lv 0) m (ao_0 lv L)).2.1 - as_stay lw (lv 0 - 1 - (m : Int)) (v 30) (ao lw (v 30) (lv 0) m (ao_0 lv L)).2.1))) 17 (im_up ov (lv 0 - 1 - (m : Int)) (as_over lw (lv 0 - 1 - (m : Int)) (v 30) (ao lw (v 30) (lv 0) m (ao_0 lv L)).2.1))) 2 (kp_off (lv 0 - 1 - (m : Int)) (as_over lw (lv 0 - 1 - (m : Int)) (v 30) (ao lw (v 30) (lv 0) m (ao_0 lv L)).2.1 - as_stay lw (lv 0 - 1 - (m : Int)) (v 30) (ao lw (v 30) (lv 0) m (ao_0 lv L)).2.1) K))) (p := lv 0 - 1 - (m : Int)) (n := (im_up (im_up s (lv 0 - 1 - (m : Int)) 0) (lv 0 - 1 - (m : Int)) (as_over lw (lv 0 - 1 - (m : Int)) (v 30) (ao lw (v 30) (lv 0) m (ao_0 lv L)).2.1 - as_stay lw (lv 0 - 1 - (m : Int)) (v 30) (ao lw (v 30) (lv 0) m (ao_0 lv L)).2.1)) (lv 0 - 1 - (m : Int))) (by omega) hT (by omega) (by rw [esw0]; omega) hq1 hq2 hq3) rfl hT (fun v1 w1 hq => ?_)
        obtain ⟨rfl, rfl⟩ := hq
        refine ⟨(km_arr (lv 0 - 1 - (m : Int)) ((im_up (im_up s (lv 0 - 1 - (m : Int)) 0) (lv 0 - 1 - (m : Int)) (as_over lw (lv 0 - 1 - (m : Int)) (v 30) (ao lw (v 30) (lv 0) m (ao_0 lv L)).2.1 - as_stay lw (lv 0 - 1 - (m : Int)) (v 30) (ao lw (v 30) (lv 0) m (ao_0 lv L)).2.1)) (lv 0 - 1 - (m : Int))) (pl_U (EV4 v g3 ge3 b3 o3) 31 c) (pl_U (pl_U (pl_U (pl_U R 12 a3) 16 (im_up (im_up s (lv 0 - 1 - (m : Int)) 0) (lv 0 - 1 - (m : Int)) (as_over lw (lv 0 - 1 - (m : Int)) (v 30) (ao lw (v 30) (lv 0) m (ao_0 lv L)).2.1 - as_stay lw (lv 0 - 1 - (m : Int)) (v 30) (ao lw (v 30) (lv 0) m (ao_0 lv L)).2.1))) 17 (im_up ov (lv 0 - 1 - (m : Int)) (as_over lw (lv 0 - 1 - (m : Int)) (v 30) (ao lw (v 30) (lv 0) m (ao_0 lv L)).2.1))) 2 (kp_off (lv 0 - 1 - (m : Int)) (as_over lw (lv 0 - 1 - (m : Int)) (v 30) (ao lw (v 30) (lv 0) m (ao_0 lv L)).2.1 - as_stay lw (lv 0 - 1 - (m : Int)) (v 30) (ao lw (v 30) (lv 0) m (ao_0 lv L)).2.1) K))).1, (km_arr (lv 0 - 1 - (m : Int)) ((im_up (im_up s (lv 0 - 1 - (m : Int)) 0) (lv 0 - 1 - (m : Int)) (as_over lw (lv 0 - 1 - (m : Int)) (v 30) (ao lw (v 30) (lv 0) m (ao_0 lv L)).2.1 - as_stay lw (lv 0 - 1 - (m : Int)) (v 30) (ao lw (v 30) (lv 0) m (ao_0 lv L)).2.1)) (lv 0 - 1 - (m : Int))) (pl_U (EV4 v g3 ge3 b3 o3) 31 c) (pl_U (pl_U (pl_U (pl_U R 12 a3) 16 (im_up (im_up s (lv 0 - 1 - (m : Int)) 0) (lv 0 - 1 - (m : Int)) (as_over lw (lv 0 - 1 - (m : Int)) (v 30) (ao lw (v 30) (lv 0) m (ao_0 lv L)).2.1 - as_stay lw (lv 0 - 1 - (m : Int)) (v 30) (ao lw (v 30) (lv 0) m (ao_0 lv L)).2.1))) 17 (im_up ov (lv 0 - 1 - (m : Int)) (as_over lw (lv 0 - 1 - (m : Int)) (v 30) (ao lw (v 30) (lv 0) m (ao_0 lv L)).2.1))) 2 (kp_off (lv 0 - 1 - (m : Int)) (as_over lw (lv 0 - 1 - (m : Int)) (v 30) (ao lw (v 30) (lv 0) m (ao_0 lv L)).2.1 - as_stay lw (lv 0 - 1 - (m : Int)) (v 30) (ao lw (v 30) (lv 0) m (ao_0 lv L)).2.1) K))).2, rfl, rfl, ?_⟩
        rw [esw0, km_arr_AW]
        refine im_g 2 (y := (17, _, _, _)) rfl trivial ?_
        have t := ih (m + 1) _ _ b _ _ g3 ge3 b3 o3 a3 (by omega) (AI_go hI ht.2.1 (by omega) (by omega) (wk := (as_over lw (lv 0 - 1 - (m : Int)) (v 30) (ao lw (v 30) (lv 0) m (ao_0 lv L)).2.1 - as_stay lw (lv 0 - 1 - (m : Int)) (v 30) (ao lw (v 30) (lv 0) m (ao_0 lv L)).2.1)) rfl)
        rw [show lv 0 - 1 - ((m + 1 : Nat) : Int) = lv 0 - 1 - (m : Int) + -1 by omega] at t
        exact t
      · refine im_g 9 (y := (17, _, _, _)) rfl trivial ?_
        have t := ih (m + 1) K c _ _ _ g2 ge2 b2 o2 a2 (by omega) (AI_bar hI ht.2.1 (by omega) (by omega))
        rw [show lv 0 - 1 - ((m + 1 : Nat) : Int) = lv 0 - 1 - (m : Int) + -1 by omega] at t
        exact t
  refine im_eqs (y := (17, [some (mr 0), some (.inl 0), some (.inl (lv 0 - 1 - ((0 : Nat) : Int)))], [], AW v R (v 22) (v 23) (v 24) (v 25) 0 (R 12) (R 16) (R 17) (R 2))) (by rw [show lv 0 - 1 - ((0 : Nat) : Int) = R 2 110 - 1 by rw [ht.1.1.1]; omega]; rfl) ?_
  exact key (lv 0).toNat 0 (R 2) 0 0 _ _ _ _ _ _ _ (by omega) (AI_0 ht.1 _ _)
end Al
