/-! the reference: at once with another count; once -/
def BW (v : Nat → Int) (R : Nat → Int → Int) (g ge b o c : Int) (a5 a s ov : Int → Int) : im_W := MW (pl_U (EV4 v g ge b o) 31 c) (pl_U (pl_U (pl_U (pl_U (pl_U R 5 a5) 12 a) 16 s) 17 ov) 2 (R 2))
theorem im_cpy_back {K K' A : Int → Int} (h : ∀ i, (i < 0 ∨ 71 ≤ i) → K' i = K i) : im_cpy (im_cpy K A 0 (71 * 0) 71) K' (71 * 0) 0 71 = K := by
  funext j
  by_cases hj : 0 ≤ j ∧ j < 71
  · rw [show im_cpy (im_cpy K A 0 (71 * 0) 71) K' (71 * 0) 0 71 j = im_cpy K A 0 (71 * 0) 71 (71 * 0 + (j - 0)) from if_pos (by omega)]
    rw [show im_cpy K A 0 (71 * 0) 71 (71 * 0 + (j - 0)) = K (0 + (71 * 0 + (j - 0) - 71 * 0)) from if_pos (by omega)]
    congr 1
    omega
  · rw [show im_cpy (im_cpy K A 0 (71 * 0) 71) K' (71 * 0) 0 71 j = K' j from if_neg (by omega)]
    exact h j (by omega)
theorem ao_ch_7 (c b : Int) (v : Nat → Int) (R : Nat → Int → Int) : ao_ch c b v R 7 = R 7 := by
  unfold ao_ch
  split <;> rfl
section Ow
variable {ro : ab_R} {T : List im_T} {d : Nat} {v : Nat → Int} {R : Nat → Int → Int} {lv : Nat → Int} {L : Nat → Int → Int} {lw : Option im_T}
set_option maxHeartbeats 8000000 in
theorem m_onceWith (hd : 83 ≤ d) (hT : T.length < 1000) (ht : TLS v R lv L lw) {p y : Int} (hp : -1 ≤ p ∧ p < lv 0) (hy : -1000 ≤ y ∧ y ≤ 1000) (hc : 0 ≤ p → p < lv 0 → 0 ≤ L 2 p + y ∧ L 2 p + y ≤ 999) : im_ct ro T d 208 [mr 0, .inl p, .inl y] (MW v R) (fun r w => r = some (.inl ((on_all lw (v 30) p y lv L).1 6)) ∧ ∃ g ge b o c a5 a s ov, w = BW v R g ge b o c a5 a s ov ∧ ∀ x, 0 ≤ x → x < lv 0 → ov x = (on_all lw (v 30) p y lv L).2.2.1 x ∧ s x = (on_all lw (v 30) p y lv L).2.2.2 x) := by
  obtain ⟨d, rfl⟩ : ∃ e, d = e + 1 := ⟨d - 1, by omega⟩
  have hpar := lk_par ht.2.1
  refine im_ct_of (own := 9) (ret := (some .int)) (code := ab_k_X9_onceWith) (nL := 4) (L0 := [some (mr 0), some (.inl p), some (.inl y), none]) (n := 24) rfl rfl rfl rfl rfl rfl rfl rfl rfl ?_
  refine im_g 2 (y := (2, _, _, _)) rfl trivial ?_
  refine im_cM rfl rfl (m_laysAside (v := v) (R := R) (k := 0) (by omega) hT (by decide)) rfl hT (fun v1 w1 hq => ?_)
  obtain ⟨rfl, rfl⟩ := hq
  refine ⟨v, (pl_U R 5 (im_cpy (R 2) (R 5) 0 (71 * 0) 71)), rfl, rfl, ?_⟩
  refine im_g 2 (y := (7, _, _, _)) rfl trivial ?_
  refine im_b rfl rfl ⟨(by omega), (by omega), trivial⟩ (fun br1 => ?_) (fun br1 => ?_)
  · have htl : TLS v (pl_U (pl_U R 5 (im_cpy (R 2) (R 5) 0 (71 * 0) 71)) 2 (R 2)) lv (ao_ch p y lv L) lw := by
      have e : ao_ch p y lv L = L := if_neg (by omega)
      rw [e]
      exact ht
    refine im_g 1 (y := (23, _, _, _)) rfl trivial ?_
    refine im_cM rfl rfl (m_allOnce (v := v) (R := (pl_U (pl_U R 5 (im_cpy (R 2) (R 5) 0 (71 * 0) 71)) 2 (R 2))) (lv := lv) (L := ao_ch p y lv L) (lw := lw) (by omega) hT (show TLS v (pl_U (pl_U R 5 (im_cpy (R 2) (R 5) 0 (71 * 0) 71)) 2 (R 2)) lv (ao_ch p y lv L) lw from htl)) rfl hT (fun v1 w1 hq => ?_)
    obtain ⟨rfl, g, ge, b, o, c, a, s, ov, K2, rfl, hK2, hov⟩ := hq
    refine ⟨(pl_U (EV4 v g ge b o) 31 c), (pl_U (pl_U (pl_U (pl_U (pl_U (pl_U R 5 (im_cpy (R 2) (R 5) 0 (71 * 0) 71)) 2 (R 2)) 12 a) 16 s) 17 ov) 2 K2), rfl, rfl, ?_⟩
    refine im_g 3 (y := (29, _, _, _)) rfl trivial ?_
    refine im_cM rfl rfl (m_takesBack (v := pl_U (EV4 v g ge b o) 31 c) (R := (pl_U (pl_U (pl_U (pl_U (pl_U (pl_U R 5 (im_cpy (R 2) (R 5) 0 (71 * 0) 71)) 2 (R 2)) 12 a) 16 s) 17 ov) 2 K2)) (k := 0) (by omega) hT (by decide)) rfl hT (fun v1 w1 hq => ?_)
    obtain ⟨rfl, rfl⟩ := hq
    refine ⟨(pl_U (EV4 v g ge b o) 31 c), (pl_U (pl_U (pl_U (pl_U (pl_U (pl_U (pl_U R 5 (im_cpy (R 2) (R 5) 0 (71 * 0) 71)) 2 (R 2)) 12 a) 16 s) 17 ov) 2 K2) 2 (im_cpy (im_cpy (R 2) (R 5) 0 (71 * 0) 71) K2 (71 * 0) 0 71)), rfl, rfl, ?_⟩
    refine im_g 1 (y := (33, _, _, _)) rfl trivial ?_
    refine im_r rfl rfl trivial rfl ?_
    have eb : im_cpy (im_cpy (R 2) (R 5) 0 (71 * 0) 71) K2 (71 * 0) 0 71 = R 2 := im_cpy_back hK2
    rw [eb]
    exact ⟨rfl, g, ge, b, o, c, (im_cpy (R 2) (R 5) 0 (71 * 0) 71), a, s, ov, rfl, hov⟩
  · have hpp : 0 ≤ p ∧ p < lv 0 := by omega
    have hch := hc hpp.1 hpp.2
    have e : ao_ch p y lv L = pl_U L 2 (im_up (L 2) p (L 2 p + y)) := if_pos (by omega)
    have ec := (ht.1.2.2.1 p hpp.1 (by omega)).2.2.1
    have htl : TLS v (pl_U (pl_U R 5 (im_cpy (R 2) (R 5) 0 (71 * 0) 71)) 2 (im_up (R 2) (0 + p) (R 2 (0 + p) + y))) lv (ao_ch p y lv L) lw := by
      have hf : ∀ i, 71 ≤ i → im_up (R 2) (0 + p) (R 2 (0 + p) + y) i = R 2 i := fun i hi => im_up_ne _ _ (by omega)
      refine ⟨?_, LOK_ch ht.2.1 hc, by rw [ao_ch_7]; exact ht.2.2.1, KT_fr ht.2.2.2.1 hf, KLW_fr ht.2.2.2.2.1 hf, ht.2.2.2.2.2⟩
      rw [e, ← ec]
      exact KR_cnt ht.1 (by omega) _
    refine im_g 11 (y := (23, _, _, _)) rfl ⟨(by omega), (by omega), trivial⟩ ?_
    refine im_cM rfl rfl (m_allOnce (v := v) (R := (pl_U (pl_U R 5 (im_cpy (R 2) (R 5) 0 (71 * 0) 71)) 2 (im_up (R 2) (0 + p) (R 2 (0 + p) + y)))) (lv := lv) (L := ao_ch p y lv L) (lw := lw) (by omega) hT (show TLS v (pl_U (pl_U R 5 (im_cpy (R 2) (R 5) 0 (71 * 0) 71)) 2 (im_up (R 2) (0 + p) (R 2 (0 + p) + y))) lv (ao_ch p y lv L) lw from htl)) rfl hT (fun v1 w1 hq => ?_)
    obtain ⟨rfl, g, ge, b, o, c, a, s, ov, K2, rfl, hK2, hov⟩ := hq
    refine ⟨(pl_U (EV4 v g ge b o) 31 c), (pl_U (pl_U (pl_U (pl_U (pl_U (pl_U R 5 (im_cpy (R 2) (R 5) 0 (71 * 0) 71)) 2 (im_up (R 2) (0 + p) (R 2 (0 + p) + y))) 12 a) 16 s) 17 ov) 2 K2), rfl, rfl, ?_⟩
    refine im_g 3 (y := (29, _, _, _)) rfl trivial ?_
    refine im_cM rfl rfl (m_takesBack (v := pl_U (EV4 v g ge b o) 31 c) (R := (pl_U (pl_U (pl_U (pl_U (pl_U (pl_U R 5 (im_cpy (R 2) (R 5) 0 (71 * 0) 71)) 2 (im_up (R 2) (0 + p) (R 2 (0 + p) + y))) 12 a) 16 s) 17 ov) 2 K2)) (k := 0) (by omega) hT (by decide)) rfl hT (fun v1 w1 hq => ?_)
    obtain ⟨rfl, rfl⟩ := hq
    refine ⟨(pl_U (EV4 v g ge b o) 31 c), (pl_U (pl_U (pl_U (pl_U (pl_U (pl_U (pl_U R 5 (im_cpy (R 2) (R 5) 0 (71 * 0) 71)) 2 (im_up (R 2) (0 + p) (R 2 (0 + p) + y))) 12 a) 16 s) 17 ov) 2 K2) 2 (im_cpy (im_cpy (R 2) (R 5) 0 (71 * 0) 71) K2 (71 * 0) 0 71)), rfl, rfl, ?_⟩
    refine im_g 1 (y := (33, _, _, _)) rfl trivial ?_
    refine im_r rfl rfl trivial rfl ?_
    have eb : im_cpy (im_cpy (R 2) (R 5) 0 (71 * 0) 71) K2 (71 * 0) 0 71 = R 2 := im_cpy_back (fun i hi => (hK2 i hi).trans (im_up_ne (R 2) _ (by omega)))
    rw [eb]
    exact ⟨rfl, g, ge, b, o, c, (im_cpy (R 2) (R 5) 0 (71 * 0) 71), a, s, ov, rfl, hov⟩
end Ow
