/-! kept and the land move alike -/
section Kr
variable {K : Int → Int} {lv : Nat → Int} {L : Nat → Int → Int}
theorem KR_cnt (h : KR K lv L) {p : Int} (hp : 0 ≤ p ∧ p < 10) (x : Int) : KR (im_up K (0 + p) x) lv (pl_U L 2 (im_up (L 2) p x)) := by
  obtain ⟨⟨a1, a2, a3, a4, a5, a6⟩, ⟨b1, b2, b3, b4⟩, c, d, e⟩ := h
  refine ⟨⟨?_, ?_, ?_, ?_, ?_, ?_⟩, ⟨?_, ?_, ?_, ?_⟩, fun q q1 q2 => ?_, fun k q1 q2 => ?_, fun k q1 q2 => ?_⟩
  · rw [im_up_ne _ _ (by omega)]; exact a1
  · rw [im_up_ne _ _ (by omega)]; exact a2
  · rw [im_up_ne _ _ (by omega)]; exact a3
  · rw [im_up_ne _ _ (by omega)]; exact a4
  · rw [im_up_ne _ _ (by omega)]; exact a5
  · rw [im_up_ne _ _ (by omega)]; exact a6
  · rw [im_up_ne _ _ (by omega)]; exact b1
  · rw [im_up_ne _ _ (by omega)]; exact b2
  · rw [im_up_ne _ _ (by omega)]; exact b3
  · rw [im_up_ne _ _ (by omega)]; exact b4
  · obtain ⟨c1, c2, c3, c4⟩ := c q q1 q2
    rw [im_up_ne _ _ (by omega), im_up_ne _ _ (show 81 + q ≠ 0 + p by omega), im_up_ne _ _ (show 10 + q ≠ 0 + p by omega)]
    refine ⟨c1, c2, ?_, c4⟩
    show im_up K (0 + p) x (0 + q) = im_up (L 2) p x q
    unfold im_up
    rw [c3]
    by_cases z : q = p
    · rw [if_pos (by omega), if_pos z]
    · rw [if_neg (by omega), if_neg z]
  · have hg := d k q1 q2
    rw [im_up_ne _ _ (by omega), im_up_ne _ _ (show 20 + 3 * k + 1 ≠ 0 + p by omega), im_up_ne _ _ (show 20 + 3 * k + 2 ≠ 0 + p by omega)]
    exact hg
  · rw [im_up_ne _ _ (by omega), im_up_ne _ _ (show 91 + 2 * k + 1 ≠ 0 + p by omega)]
    exact e k q1 q2
theorem KR_wlk (h : KR K lv L) {p : Int} (hp : 0 ≤ p ∧ p < 10) (x : Int) : KR (im_up K (10 + p) x) lv (pl_U L 3 (im_up (L 3) p x)) := by
  obtain ⟨⟨a1, a2, a3, a4, a5, a6⟩, ⟨b1, b2, b3, b4⟩, c, d, e⟩ := h
  refine ⟨⟨?_, ?_, ?_, ?_, ?_, ?_⟩, ⟨?_, ?_, ?_, ?_⟩, fun q q1 q2 => ?_, fun k q1 q2 => ?_, fun k q1 q2 => ?_⟩
  · rw [im_up_ne _ _ (by omega)]; exact a1
  · rw [im_up_ne _ _ (by omega)]; exact a2
  · rw [im_up_ne _ _ (by omega)]; exact a3
  · rw [im_up_ne _ _ (by omega)]; exact a4
  · rw [im_up_ne _ _ (by omega)]; exact a5
  · rw [im_up_ne _ _ (by omega)]; exact a6
  · rw [im_up_ne _ _ (by omega)]; exact b1
  · rw [im_up_ne _ _ (by omega)]; exact b2
  · rw [im_up_ne _ _ (by omega)]; exact b3
  · rw [im_up_ne _ _ (by omega)]; exact b4
  · obtain ⟨c1, c2, c3, c4⟩ := c q q1 q2
    rw [im_up_ne _ _ (by omega), im_up_ne _ _ (show 81 + q ≠ 10 + p by omega), im_up_ne _ _ (show 0 + q ≠ 10 + p by omega)]
    refine ⟨c1, c2, c3, ?_⟩
    show im_up K (10 + p) x (10 + q) = im_up (L 3) p x q
    unfold im_up
    rw [c4]
    by_cases z : q = p
    · rw [if_pos (by omega), if_pos z]
    · rw [if_neg (by omega), if_neg z]
  · have hg := d k q1 q2
    rw [im_up_ne _ _ (by omega), im_up_ne _ _ (show 20 + 3 * k + 1 ≠ 10 + p by omega), im_up_ne _ _ (show 20 + 3 * k + 2 ≠ 10 + p by omega)]
    exact hg
  · rw [im_up_ne _ _ (by omega), im_up_ne _ _ (show 91 + 2 * k + 1 ≠ 10 + p by omega)]
    exact e k q1 q2
/-- who leaves -/
theorem KR_off (h : KR K lv L) {p n : Int} (hp : 0 ≤ p ∧ p < lv 0 ∧ p < 10) : KR (kp_off p n K) lv (pl_leave p n lv L) := by
  obtain ⟨c1, c2, c3, c4⟩ := h.2.2.1 p hp.1 hp.2.2
  have h1 := KR_cnt h (p := p) ⟨hp.1, hp.2.2⟩ (K (0 + p) - n)
  have h2 := KR_wlk h1 (p := p) ⟨hp.1, hp.2.2⟩ (min 99999 (im_up K (0 + p) (K (0 + p) - n) (10 + p) + n))
  have e : pl_leave p n lv L = pl_U (pl_U L 2 (im_up (L 2) p (K (0 + p) - n))) 3 (im_up ((pl_U L 2 (im_up (L 2) p (K (0 + p) - n))) 3) p (min 99999 (im_up K (0 + p) (K (0 + p) - n) (10 + p) + n))) := by
    unfold pl_leave
    rw [if_pos hp, im_up_ne _ _ (by omega), c3, c4]
    rfl
  rw [e]
  exact h2
theorem KR_sea (h : KR K lv L) (hg : lv 1 ≤ 16) (x : Int) : KR (im_up K 69 x) (pl_U lv 2 x) L := by
  obtain ⟨⟨a1, a2, a3, a4, a5, a6⟩, ⟨b1, b2, b3, b4⟩, c, d, e⟩ := h
  refine ⟨⟨?_, ?_, im_up_self _ _ _, ?_, ?_, ?_⟩, ⟨?_, ?_, ?_, ?_⟩, fun q q1 q2 => ?_, fun k q1 q2 => ?_, fun k q1 q2 => ?_⟩
  · rw [im_up_ne _ _ (by omega)]; exact a1
  · rw [im_up_ne _ _ (by omega)]; exact a2
  · rw [im_up_ne _ _ (by omega)]; exact a4
  · rw [im_up_ne _ _ (by omega)]; exact a5
  · rw [im_up_ne _ _ (by omega)]; exact a6
  · rw [im_up_ne _ _ (by omega)]; exact b1
  · rw [im_up_ne _ _ (by omega)]; exact b2
  · rw [im_up_ne _ _ (by omega)]; exact b3
  · rw [im_up_ne _ _ (by omega)]; exact b4
  · rw [im_up_ne _ _ (by omega), im_up_ne _ _ (show 81 + q ≠ 69 by omega), im_up_ne _ _ (show 0 + q ≠ 69 by omega), im_up_ne _ _ (show 10 + q ≠ 69 by omega)]
    exact c q q1 q2
  · have q2' : k < lv 1 := q2
    rw [im_up_ne _ _ (by omega), im_up_ne _ _ (show 20 + 3 * k + 1 ≠ 69 by omega), im_up_ne _ _ (show 20 + 3 * k + 2 ≠ 69 by omega)]
    exact d k q1 q2'
  · rw [im_up_ne _ _ (by omega), im_up_ne _ _ (show 91 + 2 * k + 1 ≠ 69 by omega)]
    exact e k q1 q2
theorem KR_v6 (h : KR K lv L) (x : Int) : KR K (pl_U lv 6 x) L := h
/-- who arrives -/
theorem KR_arr (h : KR K lv L) (hk : LOK lv L) {v : Nat → Int} {R : Nat → Int → Int} (hK : R 2 = K) {p n : Int} (hp : 0 ≤ p ∧ p < lv 0) : KR ((km_arr p n v R).2 2) (pl_arr (L 0 p) n lv L).1 (pl_arr (L 0 p) n lv L).2 ∧ (km_arr p n v R).1 31 - v 31 = (pl_arr (L 0 p) n lv L).1 6 - lv 6 := by
  subst hK
  have h0 := lk_par hk
  obtain ⟨c1, -⟩ := h.2.2.1 p hp.1 (by omega)
  have hl := lk_low hk hp.1 hp.2
  have hb := lk_bel hk p
  unfold km_arr pl_arr
  rw [c1]
  by_cases z : L 0 p = -1
  · rw [if_pos z, if_neg (by omega)]
    refine ⟨?_, ?_⟩
    · show KR (im_up (R 2) 69 (min 99999 (R 2 69 + n))) (pl_U (pl_U lv 2 (min 99999 (lv 2 + n))) 6 (lv 6 + n)) L
      rw [h.1.2.2.1]
      exact KR_v6 (KR_sea h (lk_grp hk).2 _) _
    · show v 31 + n - v 31 = lv 6 + n - lv 6
      omega
  · rw [if_neg z, if_pos (by omega)]
    obtain ⟨-, -, c3, -⟩ := h.2.2.1 (L 0 p) (by omega) (by omega)
    refine ⟨?_, by show v 31 - v 31 = lv 6 - lv 6; omega⟩
    show KR (im_up (R 2) (0 + L 0 p) (min 999 (R 2 (0 + L 0 p) + n))) lv (pl_U L 2 (im_up (L 2) (L 0 p) (min 999 (L 2 (L 0 p) + n))))
    rw [c3]
    exact KR_cnt h (by omega) _
/-- a group more -/
theorem KR_grp (h : KR K lv L) (h1 : 0 ≤ lv 1 ∧ lv 1 < 16) (a b c0 : Int) : KR (im_up (im_up (im_up (im_up K (20 + 3 * lv 1) a) (20 + 3 * lv 1 + 1) b) (20 + 3 * lv 1 + 2) c0) 68 (lv 1 + 1)) (pl_U lv 1 (lv 1 + 1)) (pl_U (pl_U (pl_U L 4 (im_up (L 4) (lv 1) a)) 5 (im_up (L 5) (lv 1) b)) 6 (im_up (L 6) (lv 1) c0)) := by
  obtain ⟨⟨a1, a2, a3, a4, a5, a6⟩, ⟨b1, b2, b3, b4⟩, c, d, e⟩ := h
  have far : ∀ i, (i < 20 ∨ 69 ≤ i) → im_up (im_up (im_up (im_up K (20 + 3 * lv 1) a) (20 + 3 * lv 1 + 1) b) (20 + 3 * lv 1 + 2) c0) 68 (lv 1 + 1) i = K i := by
    intro i hi
    rw [im_up_ne _ _ (by omega), im_up_ne _ _ (by omega), im_up_ne _ _ (by omega), im_up_ne _ _ (by omega)]
  refine ⟨⟨?_, im_up_self _ _ _, ?_, ?_, ?_, ?_⟩, ⟨?_, ?_, ?_, ?_⟩, fun q q1 q2 => ?_, fun k q1 q2 => ?_, fun k q1 q2 => ?_⟩
  · rw [far _ (by omega)]; exact a1
  · rw [far _ (by omega)]; exact a3
  · rw [far _ (by omega)]; exact a4
  · rw [far _ (by omega)]; exact a5
  · rw [far _ (by omega)]; exact a6
  · rw [far _ (by omega)]; exact b1
  · rw [far _ (by omega)]; exact b2
  · rw [far _ (by omega)]; exact b3
  · rw [far _ (by omega)]; exact b4
  · rw [far _ (by omega), far _ (by omega), far _ (by omega), far _ (by omega)]
    exact c q q1 q2
  · have q2' : k < lv 1 + 1 := q2
    show _ = im_up (L 4) (lv 1) a k ∧ _ = im_up (L 5) (lv 1) b k ∧ _ = im_up (L 6) (lv 1) c0 k
    by_cases z : k = lv 1
    · subst z
      rw [im_up_self, im_up_self, im_up_self]
      refine ⟨?_, ?_, ?_⟩
      · rw [im_up_ne _ _ (by omega), im_up_ne _ _ (by omega), im_up_ne _ _ (by omega), im_up_self]
      · rw [im_up_ne _ _ (by omega), im_up_ne _ _ (by omega), im_up_self]
      · rw [im_up_ne _ _ (by omega), im_up_self]
    · obtain ⟨d1, d2, d3⟩ := d k q1 (by omega)
      rw [im_up_ne (L 4) _ z, im_up_ne (L 5) _ z, im_up_ne (L 6) _ z, ← d1, ← d2, ← d3]
      refine ⟨?_, ?_, ?_⟩
      · rw [im_up_ne _ _ (by omega), im_up_ne _ _ (by omega), im_up_ne _ _ (by omega), im_up_ne _ _ (by omega)]
      · rw [im_up_ne _ _ (by omega), im_up_ne _ _ (by omega), im_up_ne _ _ (by omega), im_up_ne _ _ (by omega)]
      · rw [im_up_ne _ _ (by omega), im_up_ne _ _ (by omega), im_up_ne _ _ (by omega), im_up_ne _ _ (by omega)]
  · have q2' : k < lv 3 := q2
    rw [far _ (by omega), far _ (by omega)]
    exact e k q1 q2'
end Kr
