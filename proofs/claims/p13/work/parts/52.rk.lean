/-! the reference reckons; days pass; at once -/
def KFr (K K' : Int → Int) : Prop := ∀ i, 71 ≤ i → K' i = K i
/-- as before but for telling's scratch and kept -/
def QA (v : Nat → Int) (R : Nat → Int → Int) (K' : Int → Int) (w : im_W) : Prop := ∃ g ge b o a, w = MW (EV4 v g ge b o) (pl_U (pl_U R 12 a) 2 K')
theorem im_up_id {α : Type} (f : Int → α) (k : Int) : im_up f k (f k) = f := by
  funext j
  unfold im_up
  split
  · rename_i h; rw [h]
  · rfl
theorem kp_off_0 {K : Int → Int} {p : Int} (h : K (10 + p) ≤ 99999) : kp_off p 0 K = K := by
  unfold kp_off
  rw [Int.sub_zero, im_up_id, Int.add_zero, show min 99999 (K (10 + p)) = K (10 + p) by omega, im_up_id]
theorem kp_off_far (p n : Int) (K : Int → Int) {i : Int} (h1 : i ≠ 0 + p) (h2 : i ≠ 10 + p) : kp_off p n K i = K i := by
  unfold kp_off
  rw [im_up_ne _ _ h2, im_up_ne _ _ h1]
section Rk
variable {ro : ab_R} {T : List im_T} {d : Nat} {v : Nat → Int} {R : Nat → Int → Int} {lv : Nat → Int} {L : Nat → Int → Int} {lw : Option im_T}
set_option maxHeartbeats 8000000 in
theorem m_reckons (hd : 82 ≤ d) (hT : T.length < 1000) (ht : TLS v R lv L lw) (h30 : v 30 = 0) {p : Int} (hp : 0 ≤ p ∧ p < lv 0) (hnb : as_bar lw p 0 L = 0) (hro : (as_over lw p 0 L - as_stay lw p 0 L) = 0 ∨ lv 1 < 16) : im_ct ro T d 192 [mr 0, .inl p] (MW v R) (fun r w => r = some (.inl (pl_send lw p lv L).1) ∧ ∃ K', QA v R K' w ∧ KR K' (pl_send lw p lv L).2.1 (pl_send lw p lv L).2.2 ∧ KFr (R 2) K') := by
  obtain ⟨d, rfl⟩ : ∃ e, d = e + 1 := ⟨d - 1, by omega⟩
  have hki := KT_ir ht.1 ht.2.1
  have hpar := lk_par ht.2.1
  have hgr := lk_grp ht.2.1
  have hp10 : 0 ≤ p ∧ p < 10 := by omega
  have hkp := KR_p ht.1 ht.2.1 p hp10.1 hp10.2
  have hob := as_over_b lw p 0 L
  have hsb := as_stay_b lw p 0 L
  have hst := as_steps_b lw p 0 L
  refine im_ct_of (own := 9) (ret := (some .int)) (code := ab_k_X9_reckons) (nL := 5) (L0 := [some (mr 0), some (.inl p), none, none, none]) (n := 24) rfl rfl rfl rfl rfl rfl rfl rfl rfl ?_
  refine im_g 2 (y := (2, _, _, _)) rfl trivial ?_
  refine im_cM rfl rfl (m_walkers (lv := lv) (L := L) (lw := lw) (by omega) hT ht hp10) rfl hT (fun v1 w1 hq => ?_)
  obtain ⟨rfl, g1, ge1, b1, o1, a1, rfl⟩ := hq
  refine ⟨(EV4 v g1 ge1 b1 o1), (pl_U R 12 a1), rfl, rfl, ?_⟩
  rw [h30]
  refine im_g 3 (y := (8, _, _, _)) rfl trivial ?_
  refine im_cM rfl rfl (m_steps (v := (EV4 v g1 ge1 b1 o1)) (R := (pl_U R 12 a1)) (lv := lv) (L := L) (lw := lw) (by omega) hT (TLS_q ht _ _ _ _ _) hp10) rfl hT (fun v1 w1 hq => ?_)
  obtain ⟨rfl, g2, ge2, b2, o2, a2, rfl⟩ := hq
  refine ⟨(EV4 v g2 ge2 b2 o2), (pl_U R 12 a2), rfl, rfl, ?_⟩
  rw [show (EV4 v g1 ge1 b1 o1) 30 = 0 from h30]
  refine im_g 4 (y := (15, _, _, _)) rfl trivial ?_
  refine im_cM rfl rfl (m_walksOff (v := (EV4 v g2 ge2 b2 o2)) (R := (pl_U R 12 a2)) (p := p) (n := (as_over lw p 0 L - as_stay lw p 0 L)) (by omega) hT (by omega) (by omega) hkp.2.2.2) rfl hT (fun v1 w1 hq => ?_)
  obtain ⟨rfl, rfl⟩ := hq
  refine ⟨(EV4 v g2 ge2 b2 o2), (pl_U (pl_U R 12 a2) 2 (kp_off p (as_over lw p 0 L - as_stay lw p 0 L) (R 2))), rfl, rfl, ?_⟩
  refine im_g 1 (y := (19, _, _, _)) rfl trivial ?_
  refine im_b rfl rfl ⟨(by omega), trivial⟩ (fun br1 => ?_) (fun br1 => ?_)
  · have e68 : (kp_off p (as_over lw p 0 L - as_stay lw p 0 L) (R 2)) 68 = lv 1 := (KR_off ht.1 (p := p) (n := (as_over lw p 0 L - as_stay lw p 0 L)) (by omega)).1.2.1
    have e68b : (pl_U (pl_U R 12 a2) 2 (kp_off p (as_over lw p 0 L - as_stay lw p 0 L) (R 2))) 2 68 = lv 1 := e68
    refine im_g 37 (y := (78, _, _, _)) rfl ⟨(by omega), (by omega), (by omega), (by omega), (by omega), (by omega), trivial⟩ ?_
    refine im_r rfl rfl trivial rfl ?_
    have e : pl_send lw p lv L = ((as_over lw p 0 L - as_stay lw p 0 L), pl_U lv 1 (lv 1 + 1), pl_leave p (as_over lw p 0 L - as_stay lw p 0 L) (pl_U lv 1 (lv 1 + 1)) (pl_U (pl_U (pl_U L 4 (im_up (L 4) (lv 1) p)) 5 (im_up (L 5) (lv 1) (as_over lw p 0 L - as_stay lw p 0 L))) 6 (im_up (L 6) (lv 1) (as_steps lw p 0 L)))) := by
      unfold pl_send
      rw [if_neg (by omega), if_neg (by omega), if_neg (by omega), if_neg (by omega)]
    rw [e]
    have hKo := KR_off ht.1 (p := p) (n := (as_over lw p 0 L - as_stay lw p 0 L)) (by omega)
    have e68 : (kp_off p (as_over lw p 0 L - as_stay lw p 0 L) (R 2)) 68 = lv 1 := hKo.1.2.1
    have hG := KR_grp hKo (by omega) p (as_over lw p 0 L - as_stay lw p 0 L) (as_steps lw p 0 L)
    refine ⟨rfl, im_up (im_up (im_up (im_up (kp_off p (as_over lw p 0 L - as_stay lw p 0 L) (R 2)) (20 + 3 * (kp_off p (as_over lw p 0 L - as_stay lw p 0 L) (R 2)) 68) p) (20 + 3 * (kp_off p (as_over lw p 0 L - as_stay lw p 0 L) (R 2)) 68 + 1) (as_over lw p 0 L - as_stay lw p 0 L)) (20 + 3 * (kp_off p (as_over lw p 0 L - as_stay lw p 0 L) (R 2)) 68 + 2) (as_steps lw p 0 L)) 68 (im_up (im_up (im_up (kp_off p (as_over lw p 0 L - as_stay lw p 0 L) (R 2)) (20 + 3 * (kp_off p (as_over lw p 0 L - as_stay lw p 0 L) (R 2)) 68) p) (20 + 3 * (kp_off p (as_over lw p 0 L - as_stay lw p 0 L) (R 2)) 68 + 1) (as_over lw p 0 L - as_stay lw p 0 L)) (20 + 3 * (kp_off p (as_over lw p 0 L - as_stay lw p 0 L) (R 2)) 68 + 2) (as_steps lw p 0 L) 68 + 1), ⟨g2, ge2, b2, o2, a2, rfl⟩, ?_, ?_⟩
    · rw [e68, show im_up (im_up (im_up (kp_off p (as_over lw p 0 L - as_stay lw p 0 L) (R 2)) (20 + 3 * lv 1) p) (20 + 3 * lv 1 + 1) (as_over lw p 0 L - as_stay lw p 0 L)) (20 + 3 * lv 1 + 2) (as_steps lw p 0 L) 68 = lv 1 by rw [im_up_ne _ _ (by omega), im_up_ne _ _ (by omega), im_up_ne _ _ (by omega), e68]]
      have t := hG
      unfold pl_leave at t ⊢
      rw [if_pos (by omega)] at t
      rw [if_pos (show 0 ≤ p ∧ p < (pl_U lv 1 (lv 1 + 1)) 0 ∧ p < 10 from ⟨hp.1, hp.2, by omega⟩)]
      exact t
    · intro i hi
      rw [e68, im_up_ne _ _ (by omega), im_up_ne _ _ (by omega), im_up_ne _ _ (by omega), im_up_ne _ _ (by omega)]
      exact kp_off_far p _ _ (by omega) (by omega)
  · refine im_g 1 (y := (23, _, _, _)) rfl trivial ?_
    refine im_r rfl rfl trivial rfl ?_
    have hw0 : (as_over lw p 0 L - as_stay lw p 0 L) = 0 := by omega
    have e : pl_send lw p lv L = (0, lv, L) := by
      unfold pl_send
      rw [if_neg (by omega), if_neg (by omega), if_pos hw0]
    rw [e]
    refine ⟨rfl, (kp_off p (as_over lw p 0 L - as_stay lw p 0 L) (R 2)), ⟨g2, ge2, b2, o2, a2, rfl⟩, ?_, ?_⟩
    · rw [hw0, kp_off_0 (by omega)]; exact ht.1
    · intro i hi; exact kp_off_far p _ _ (by omega) (by omega)
end Rk
