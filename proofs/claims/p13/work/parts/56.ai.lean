/-! at once: kept and the land -/
theorem KT_fr {K K' : Int → Int} (h : KT K) (hf : ∀ i, 71 ≤ i → K' i = K i) : KT K' := by
  obtain ⟨h1, h2, h3⟩ := h
  refine ⟨fun i a b => ?_, fun i a b => ?_, fun t a b => ?_⟩
  · rw [hf _ (by omega)]; exact h1 i a b
  · rw [hf _ (by omega)]; exact h2 i a b
  · rw [hf _ (by omega)]; exact h3 t a b
theorem KLW_fr {K K' : Int → Int} {f : Int} {lw : Option im_T} (h : KLW K f lw) (hf : ∀ i, 71 ≤ i → K' i = K i) : KLW K' f lw := by
  rcases h with h | ⟨h1, q, Cs, h2, h3, h4⟩
  · exact Or.inl h
  · refine Or.inr ⟨h1, q, Cs, h2, h3, ?_⟩
    have t := LSd_sh (c := KC K' f) (x := fun i => K' (2921 + i)) (s := 0) (i0 := 400 * f) (fun k hk => by unfold KC; rw [hf _ (by omega), Int.add_zero, hf _ (by omega)]) (fun k hk => by show K (2921 + k) = K' (2921 + (k + 0)); rw [Int.add_zero, hf _ (by omega)]) Cs (400 * f) (Int.le_refl _) h4
    rw [Int.add_zero, Int.add_zero] at t
    rw [hf _ (by omega)]
    exact t
/-- lands alike where KR looks -/
theorem KR_same {K : Int → Int} {lv lv' : Nat → Int} {L L' : Nat → Int → Int} (h : KR K lv L) (hv : ∀ j, j < 6 → lv' j = lv j) (hL : (∀ p, 0 ≤ p → p < 10 → L' 0 p = L 0 p ∧ L' 1 p = L 1 p ∧ L' 2 p = L 2 p ∧ L' 3 p = L 3 p) ∧ L' 4 = L 4 ∧ L' 5 = L 5 ∧ L' 6 = L 6 ∧ L' 7 = L 7 ∧ L' 8 = L 8 ∧ L' 9 = L 9) : KR K lv' L' := by
  obtain ⟨⟨a1, a2, a3, a4, a5, a6⟩, b, c, d, e⟩ := h
  obtain ⟨l0, l4, l5, l6, l7, l8, l9⟩ := hL
  refine ⟨⟨?_, ?_, ?_, ?_, ?_, ?_⟩, ?_, fun p q1 q2 => ?_, fun k q1 q2 => ?_, fun k q1 q2 => ?_⟩
  · rw [hv 0 (by decide)]; exact a1
  · rw [hv 1 (by decide)]; exact a2
  · rw [hv 2 (by decide)]; exact a3
  · rw [hv 3 (by decide)]; exact a4
  · rw [hv 4 (by decide)]; exact a5
  · rw [hv 5 (by decide)]; exact a6
  · rw [l7]; exact b
  · obtain ⟨c1, c2, c3, c4⟩ := c p q1 q2
    obtain ⟨m1, m2, m3, m4⟩ := l0 p q1 q2
    rw [m1, m2, m3, m4]
    exact ⟨c1, c2, c3, c4⟩
  · rw [hv 1 (by decide)] at q2
    rw [l4, l5, l6]
    exact d k q1 q2
  · rw [hv 3 (by decide)] at q2
    rw [l8, l9]
    exact e k q1 q2
theorem ao_1_rows (lw : Option im_T) (ten p : Int) (q : ao_Q) {j : Nat} (h2 : j ≠ 2) (h3 : j ≠ 3) : (ao_1 lw ten p q).2.1 j = q.2.1 j := (pl_arr_row _ _ _ _ h2).trans (pl_leave_row _ _ _ _ h2 h3)
/-- a parish that neither goes nor is gone to -/
theorem RQ_ao {lw : Option im_T} {ten p x : Int} {q : ao_Q} (h1 : x ≠ p) (h2 : x ≠ q.2.1 0 p) : RQ x (ao_1 lw ten p q).2.1 q.2.1 := by
  have e2 : (ao_1 lw ten p q).2.1 2 x = q.2.1 2 x := by
    show (pl_arr _ _ _ (pl_leave p (as_wk lw p ten q.2.1) q.1 q.2.1)).2 2 x = _
    have el : pl_leave p (as_wk lw p ten q.2.1) q.1 q.2.1 2 x = q.2.1 2 x := by
      unfold pl_leave
      split
      · exact im_up_ne _ _ h1
      · rfl
    unfold pl_arr
    split
    · show im_up _ _ _ x = _
      rw [im_up_ne _ _ h2]
      exact el
    · exact el
  have e3 : (ao_1 lw ten p q).2.1 3 x = q.2.1 3 x := by
    show (pl_arr _ _ _ (pl_leave p (as_wk lw p ten q.2.1) q.1 q.2.1)).2 3 x = _
    rw [pl_arr_row _ _ _ _ (by decide)]
    unfold pl_leave
    split
    · exact im_up_ne _ _ h1
    · rfl
  refine ⟨?_, ?_, e2, e3, ?_, ?_, ?_⟩
  · rw [ao_1_rows _ _ _ _ (by decide) (by decide)]
  · rw [ao_1_rows _ _ _ _ (by decide) (by decide)]
  · rw [ao_1_rows _ _ _ _ (by decide) (by decide)]
  · rw [ao_1_rows _ _ _ _ (by decide) (by decide)]
  · rw [ao_1_rows _ _ _ _ (by decide) (by decide)]
/-- nobody goes -/
theorem ao_none {lw : Option im_T} {ten p : Int} {q : ao_Q} (hk : LOK q.1 q.2.1) (hw : as_wk lw p ten q.2.1 = 0) : (∀ j, (ao_1 lw ten p q).1 j = q.1 j) ∧ ∀ j x, (ao_1 lw ten p q).2.1 j x = q.2.1 j x := by
  have el : ∀ j x, pl_leave p 0 q.1 q.2.1 j x = q.2.1 j x := by
    intro j x
    unfold pl_leave
    split
    · have hwl := lk_wlk hk p
      by_cases j3 : j = 3
      · subst j3
        show im_up (q.2.1 3) p (min 99999 (q.2.1 3 p + 0)) x = _
        rw [show min 99999 (q.2.1 3 p + 0) = q.2.1 3 p by omega, im_up_id]
      · by_cases j2 : j = 2
        · subst j2
          show im_up (q.2.1 2) p (q.2.1 2 p - 0) x = _
          rw [Int.sub_zero, im_up_id]
        · unfold pl_U
          rw [if_neg j3, if_neg j2]
    · rfl
  unfold ao_1
  rw [hw]
  refine ⟨fun j => ?_, fun j x => ?_⟩
  · show (pl_arr _ 0 q.1 _).1 j = _
    have hs := lk_sea hk
    unfold pl_arr
    split
    · rfl
    · by_cases j6 : j = 6
      · subst j6; show q.1 6 + 0 = _; omega
      · by_cases j2 : j = 2
        · subst j2; show min 99999 (q.1 2 + 0) = _; omega
        · show pl_U (pl_U q.1 2 _) 6 _ j = _
          unfold pl_U
          rw [if_neg j6, if_neg j2]
  · show (pl_arr _ 0 q.1 _).2 j x = _
    unfold pl_arr
    split
    · by_cases j2 : j = 2
      · subst j2
        show im_up (pl_leave p 0 q.1 q.2.1 2) _ (min 999 (pl_leave p 0 q.1 q.2.1 2 (q.2.1 0 p) + 0)) x = _
        have hc := lk_cnt hk (q.2.1 0 p)
        have := el 2 (q.2.1 0 p)
        rw [show min 999 (pl_leave p 0 q.1 q.2.1 2 (q.2.1 0 p) + 0) = pl_leave p 0 q.1 q.2.1 2 (q.2.1 0 p) by omega, im_up_id]
        exact el 2 x
      · show pl_U (pl_leave p 0 q.1 q.2.1) 2 _ j x = _
        unfold pl_U
        rw [if_neg j2]
        exact el j x
    · exact el j x
def ao_0 (lv : Nat → Int) (L : Nat → Int → Int) : ao_Q := (pl_U lv 6 0, L, fun _ => 0, fun _ => 0)
/-- how it stands behind m parishes -/
def AI (lw : Option im_T) (ten : Int) (lv : Nat → Int) (L : Nat → Int → Int) (K0 : Int → Int) (m : Nat) (K : Int → Int) (c : Int) (s o : Int → Int) (b : Int) : Prop := KR K (ao lw ten (lv 0) m (ao_0 lv L)).1 (ao lw ten (lv 0) m (ao_0 lv L)).2.1 ∧ (∀ i, (i < 0 ∨ 71 ≤ i) → K i = K0 i) ∧ c = (ao lw ten (lv 0) m (ao_0 lv L)).1 6 ∧ (∀ p, lv 0 - m ≤ p → p < lv 0 → o p = (ao lw ten (lv 0) m (ao_0 lv L)).2.2.1 p ∧ s p = (ao lw ten (lv 0) m (ao_0 lv L)).2.2.2 p) ∧ (0 ≤ b ∧ b ≤ 1023) ∧ ∀ p, 0 ≤ p → p < 10 → BT b p → (lv 0 - m ≤ p ∧ p < lv 0) ∧ as_over lw p ten (ao lw ten (lv 0) m (ao_0 lv L)).2.1 = (ao lw ten (lv 0) m (ao_0 lv L)).2.2.1 p
theorem AOI_0 {lv : Nat → Int} {L : Nat → Int → Int} (h : LOK lv L) : AOI (lv 0) lv L 0 (ao_0 lv L) := ⟨LOK_v6 h 0, ⟨rfl, rfl⟩, ⟨Int.le_refl _, Int.le_refl _⟩, ⟨rfl, rfl⟩, fun i => (show -1000000 ≤ (0 : Int) ∧ (0 : Int) ≤ 1000000 by decide), fun i => (show -1000000 ≤ (0 : Int) ∧ (0 : Int) ≤ 1000000 by decide)⟩
theorem AI_0 {lw : Option im_T} {ten : Int} {lv : Nat → Int} {L : Nat → Int → Int} {K : Int → Int} (h : KR K lv L) (s o : Int → Int) : AI lw ten lv L K 0 K 0 s o 0 := ⟨h, fun _ _ => rfl, rfl, fun p h1 h2 => absurd h1 (by omega), by decide, fun p h1 h2 h3 => absurd h3 (by
  have e : im_shr 0 p = 0 := by
    obtain ⟨n, rfl⟩ : ∃ n : Nat, p = n := ⟨p.toNat, by omega⟩
    rw [im_shr_p (by decide) n (by omega)]
    exact Int.zero_ediv _
  unfold BT
  rw [e]
  exact fun z => z (by decide))⟩
theorem AI_over {lw : Option im_T} {ten p x : Int} {q : ao_Q} (h1 : x ≠ p) (h2 : x ≠ q.2.1 0 p) : as_over lw x ten (ao_1 lw ten p q).2.1 = as_over lw x ten q.2.1 := as_over_q (RQ_ao h1 h2)
theorem AI_bar {lw : Option im_T} {ten : Int} {lv : Nat → Int} {L : Nat → Int → Int} {K0 : Int → Int} {m : Nat} {K : Int → Int} {c : Int} {s o : Int → Int} {b : Int} (h : AI lw ten lv L K0 m K c s o b) (hlo : LOK lv L) (hm : (m : Int) < lv 0) (hb : as_bar lw (lv 0 - 1 - m) ten (ao lw ten (lv 0) m (ao_0 lv L)).2.1 = 1) : AI lw ten lv L K0 (m + 1) K c (im_up s (lv 0 - 1 - m) 0) (im_up o (lv 0 - 1 - m) (as_over lw (lv 0 - 1 - m) ten (ao lw ten (lv 0) m (ao_0 lv L)).2.1)) (im_or b (im_shl 1 (lv 0 - 1 - m))) := by
  have hpar := lk_par hlo
  have hA := AOI_m (lw := lw) (ten := ten) (AOI_0 hlo) m
  obtain ⟨a1, a2, a3, a4, a5, a6⟩ := h
  unfold AI
  rw [show ao lw ten (lv 0) (m + 1) (ao_0 lv L) = ao_1 lw ten (lv 0 - 1 - m) (ao lw ten (lv 0) m (ao_0 lv L)) from rfl]
  generalize ao lw ten (lv 0) m (ao_0 lv L) = q at a1 a3 a4 a6 hA hb ⊢
  have hp : 0 ≤ lv 0 - 1 - (m : Int) ∧ lv 0 - 1 - (m : Int) < lv 0 := by omega
  have hbb := BT_or (u := b) (p := lv 0 - 1 - m) a5 (by omega)
  have hbi := BT_or_iff (u := b) (p := lv 0 - 1 - m) a5 (by omega)
  generalize hpp : lv 0 - 1 - (m : Int) = p at hb hp hbb hbi ⊢
  have hw : as_wk lw p ten q.2.1 = 0 := if_neg (by omega)
  obtain ⟨n1, n2⟩ := ao_none hA.1 hw
  have hov : ∀ x, as_over lw x ten (ao_1 lw ten p q).2.1 = as_over lw x ten q.2.1 := fun x => as_over_q ⟨n2 0 x, n2 1 x, n2 2 x, n2 3 x, n2 7 0, n2 7 1, n2 7 3⟩
  refine ⟨KR_same a1 (fun j _ => n1 j) ⟨fun x _ _ => ⟨n2 0 x, n2 1 x, n2 2 x, n2 3 x⟩, ?_, ?_, ?_, ?_, ?_, ?_⟩, a2, by rw [n1]; exact a3, fun x h1 h2 => ?_, hbb.1, fun x h1 h2 h3 => ?_⟩
  · funext x; exact n2 4 x
  · funext x; exact n2 5 x
  · funext x; exact n2 6 x
  · funext x; exact n2 7 x
  · funext x; exact n2 8 x
  · funext x; exact n2 9 x
  · show im_up o p _ x = im_up q.2.2.1 p _ x ∧ im_up s p 0 x = im_up q.2.2.2 p (as_wk lw p ten q.2.1) x
    rw [hw]
    unfold im_up
    by_cases e : x = p
    · rw [if_pos e, if_pos e, if_pos e, if_pos e]; exact ⟨rfl, rfl⟩
    · rw [if_neg e, if_neg e, if_neg e, if_neg e]; exact a4 x (by omega) h2
  · rw [hov]
    show _ ∧ _ = im_up q.2.2.1 p (as_over lw p ten q.2.1) x
    rcases hbi x h1 h2 h3 with t | t
    · have := a6 x h1 h2 t
      refine ⟨by omega, ?_⟩
      rw [im_up_ne _ _ (by omega)]
      exact this.2
    · subst t
      rw [im_up_self]
      exact ⟨by omega, rfl⟩
theorem AI_go {lw : Option im_T} {ten : Int} {lv : Nat → Int} {L : Nat → Int → Int} {K0 : Int → Int} {m : Nat} {K : Int → Int} {c : Int} {s o : Int → Int} {b : Int} (h : AI lw ten lv L K0 m K c s o b) (hlo : LOK lv L) (hm : (m : Int) < lv 0) (hb : as_bar lw (lv 0 - 1 - m) ten (ao lw ten (lv 0) m (ao_0 lv L)).2.1 = 0) {wk : Int} (hwk : wk = as_over lw (lv 0 - 1 - m) ten (ao lw ten (lv 0) m (ao_0 lv L)).2.1 - as_stay lw (lv 0 - 1 - m) ten (ao lw ten (lv 0) m (ao_0 lv L)).2.1) : AI lw ten lv L K0 (m + 1) (kx_arr (kp_off (lv 0 - 1 - m) wk K (71 + (lv 0 - 1 - m))) wk (kp_off (lv 0 - 1 - m) wk K)) (if kp_off (lv 0 - 1 - m) wk K (71 + (lv 0 - 1 - m)) = -1 then c + wk else c) (im_up (im_up s (lv 0 - 1 - m) 0) (lv 0 - 1 - m) wk) (im_up o (lv 0 - 1 - m) (as_over lw (lv 0 - 1 - m) ten (ao lw ten (lv 0) m (ao_0 lv L)).2.1)) b := by
  have hpar := lk_par hlo
  have hA := AOI_m (lw := lw) (ten := ten) (AOI_0 hlo) m
  have hA2 := AOI_m (lw := lw) (ten := ten) (AOI_0 hlo) (m + 1)
  obtain ⟨a1, a2, a3, a4, a5, a6⟩ := h
  unfold AI
  rw [show ao lw ten (lv 0) (m + 1) (ao_0 lv L) = ao_1 lw ten (lv 0 - 1 - m) (ao lw ten (lv 0) m (ao_0 lv L)) from rfl] at hA2 ⊢
  generalize ao lw ten (lv 0) m (ao_0 lv L) = q at a1 a3 a4 a6 hA hA2 hb hwk ⊢
  have hp : 0 ≤ lv 0 - 1 - (m : Int) ∧ lv 0 - 1 - (m : Int) < lv 0 := by omega
  have hpm : lv 0 - ((m + 1 : Nat) : Int) = lv 0 - 1 - (m : Int) := by omega
  have hbt : ∀ x, 0 ≤ x → x < 10 → BT b x → lv 0 - 1 - (m : Int) < x := fun x h1 h2 h3 => by have := (a6 x h1 h2 h3).1; omega
  rw [hpm]
  have a4' : ∀ x, lv 0 - 1 - (m : Int) < x → x < lv 0 → o x = q.2.2.1 x ∧ s x = q.2.2.2 x := fun x h1 h2 => a4 x (by omega) h2
  clear a4 hpm
  generalize lv 0 - 1 - (m : Int) = p at hb hp hbt hwk a4' hA2 ⊢
  have hw : as_wk lw p ten q.2.1 = wk := by rw [hwk]; exact if_pos hb
  have hv0 : q.1 0 = lv 0 := hA.2.1.1
  have hlow := lk_low hA.1 (p := p) hp.1 (by omega)
  have hbel := lk_bel hA.1 p
  have hKo := KR_off a1 (p := p) (n := wk) (by omega)
  have e71 : kp_off p wk K (71 + p) = q.2.1 0 p := by
    rw [kp_off_far _ _ _ (by omega) (by omega)]
    exact (a1.2.2.1 p hp.1 (by omega)).1
  obtain ⟨x1, x2, x3⟩ := KR_X hKo
  have ha := KX_arr x1 (b := q.2.1 0 p) (n := wk) (by omega)
  have hlr : pl_leave p wk q.1 q.2.1 0 = q.2.1 0 := pl_leave_row _ _ _ _ (by decide) (by decide)
  rw [e71]
  have eL : (ao_1 lw ten p q).1 = (pl_arr (q.2.1 0 p) wk q.1 (pl_leave p wk q.1 q.2.1)).1 ∧ (ao_1 lw ten p q).2.1 = (pl_arr (q.2.1 0 p) wk q.1 (pl_leave p wk q.1 q.2.1)).2 := by
    unfold ao_1
    rw [hw]
    exact ⟨rfl, rfl⟩
  refine ⟨?_, fun i hi => ?_, ?_, fun x h1 h2 => ?_, a5, fun x h1 h2 h3 => ?_⟩
  · rw [eL.1, eL.2]
    refine KX_R ha.1 ?_ (fun g g1 g2 => ?_)
    · rw [kx_arr_g (by omega) (by omega), pl_arr_v _ _ _ _ (by decide) (by decide)]
      exact x2
    · rw [pl_arr_v _ _ _ _ (by decide) (by decide)] at g2
      have hg16 := (lk_grp hA.1).2
      obtain ⟨y1, y2, y3⟩ := x3 g g1 g2
      unfold KG
      rw [kx_arr_g (by omega) (by omega), kx_arr_g (by omega) (by omega), kx_arr_g (by omega) (by omega), pl_arr_row _ _ _ _ (by decide), pl_arr_row _ _ _ _ (by decide), pl_arr_row _ _ _ _ (by decide)]
      exact ⟨y1, y2, y3⟩
  · have e1 : kx_arr (q.2.1 0 p) wk (kp_off p wk K) i = kp_off p wk K i := by
      unfold kx_arr
      split
      · exact im_up_ne _ _ (by omega)
      · exact im_up_ne _ _ (by omega)
    rw [e1, kp_off_far _ _ _ (by omega) (by omega)]
    exact a2 i hi
  · rw [eL.1, ha.2, a3]
  · show im_up o p _ x = im_up q.2.2.1 p _ x ∧ im_up (im_up s p 0) p wk x = im_up q.2.2.2 p (as_wk lw p ten q.2.1) x
    rw [hw]
    unfold im_up
    by_cases e : x = p
    · rw [if_pos e, if_pos e, if_pos e, if_pos e]; exact ⟨rfl, rfl⟩
    · rw [if_neg e, if_neg e, if_neg e, if_neg e, if_neg e]; exact a4' x (by omega) h2
  · have hx := hbt x h1 h2 h3
    have h6 := a6 x h1 h2 h3
    rw [AI_over (by omega) (by omega)]
    show _ ∧ _ = im_up q.2.2.1 p (as_over lw p ten q.2.1) x
    rw [im_up_ne _ _ (by omega)]
    exact ⟨by omega, h6.2⟩
