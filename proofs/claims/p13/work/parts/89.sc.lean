/-! what the class's short calls leave, and the reference's -/
theorem KR_hear {K : Int → Int} {lv : Nat → Int} {L : Nat → Int → Int} (h : KR K lv L) (hlo : LOK lv L) (hr : lv 3 < 8) (p o : Int) : KR (kp_hear p o K) (pl_U lv 3 (lv 3 + 1)) (pl_U (pl_U L 8 (im_up (L 8) (lv 3) p)) 9 (im_up (L 9) (lv 3) o)) := by
  obtain ⟨⟨a1, a2, a3, a4, a5, a6⟩, ⟨b1, b2, b3, b4⟩, c, d, e⟩ := h
  have hg := lk_grp hlo
  have hh := lk_hrd hlo
  unfold kp_hear
  rw [a4]
  have hf : ∀ i, i ≠ 91 + 2 * lv 3 → i ≠ 91 + 2 * lv 3 + 1 → i ≠ 111 → im_up (im_up (im_up K (91 + 2 * lv 3) p) (91 + 2 * lv 3 + 1) o) 111 (im_up (im_up K (91 + 2 * lv 3) p) (91 + 2 * lv 3 + 1) o 111 + 1) i = K i := fun i q1 q2 q3 => by
    unfold im_up
    rw [if_neg q3, if_neg q2, if_neg q1]
  have h111 : im_up (im_up K (91 + 2 * lv 3) p) (91 + 2 * lv 3 + 1) o 111 = lv 3 := by
    unfold im_up
    rw [if_neg (by omega), if_neg (by omega)]
    exact a4
  refine ⟨⟨?_, ?_, ?_, ?_, ?_, ?_⟩, ⟨?_, ?_, ?_, ?_⟩, fun p2 q1 q2 => ?_, fun k q1 q2 => ?_, fun k q1 q2 => ?_⟩
  · rw [hf _ (by omega) (by omega) (by omega)]; exact a1
  · rw [hf _ (by omega) (by omega) (by omega)]; exact a2
  · rw [hf _ (by omega) (by omega) (by omega)]; exact a3
  · rw [im_up_self, h111]; rfl
  · rw [hf _ (by omega) (by omega) (by omega)]; exact a5
  · rw [hf _ (by omega) (by omega) (by omega)]; exact a6
  · rw [hf _ (by omega) (by omega) (by omega)]; exact b1
  · rw [hf _ (by omega) (by omega) (by omega)]; exact b2
  · rw [hf _ (by omega) (by omega) (by omega)]; exact b3
  · rw [hf _ (by omega) (by omega) (by omega)]; exact b4
  · rw [hf _ (by omega) (by omega) (by omega), hf (81 + p2) (by omega) (by omega) (by omega), hf (0 + p2) (by omega) (by omega) (by omega), hf (10 + p2) (by omega) (by omega) (by omega)]
    exact c p2 q1 q2
  · have q3 : k < lv 1 := q2
    rw [hf _ (by omega) (by omega) (by omega), hf (20 + 3 * k + 1) (by omega) (by omega) (by omega), hf (20 + 3 * k + 2) (by omega) (by omega) (by omega)]
    exact d k q1 q2
  · have q3 : k < lv 3 + 1 := q2
    show _ = im_up (L 8) (lv 3) p k ∧ _ = im_up (L 9) (lv 3) o k
    by_cases ck : k = lv 3
    · subst ck
      unfold im_up
      rw [if_neg (by omega), if_neg (by omega), if_pos rfl, if_pos rfl, if_neg (by omega), if_pos rfl, if_pos rfl]
      exact ⟨rfl, rfl⟩
    · have q4 : k < lv 3 := by omega
      rw [hf _ (by omega) (by omega) (by omega), hf (91 + 2 * k + 1) (by omega) (by omega) (by omega), im_up_ne _ _ ck, im_up_ne _ _ ck]
      exact e k q1 q4
theorem KR_forget {K : Int → Int} {lv : Nat → Int} {L : Nat → Int → Int} (h : KR K lv L) (hlo : LOK lv L) : KR (im_up K 111 0) (pl_U lv 3 0) L := by
  obtain ⟨⟨a1, a2, a3, a4, a5, a6⟩, ⟨b1, b2, b3, b4⟩, c, d, e⟩ := h
  have hg := lk_grp hlo
  have hf : ∀ i, i ≠ 111 → im_up K 111 0 i = K i := fun i q1 => im_up_ne _ _ q1
  refine ⟨⟨?_, ?_, ?_, ?_, ?_, ?_⟩, ⟨?_, ?_, ?_, ?_⟩, fun p2 q1 q2 => ?_, fun k q1 q2 => ?_, fun k q1 q2 => ?_⟩
  · rw [hf _ (by omega)]; exact a1
  · rw [hf _ (by omega)]; exact a2
  · rw [hf _ (by omega)]; exact a3
  · rw [im_up_self]; rfl
  · rw [hf _ (by omega)]; exact a5
  · rw [hf _ (by omega)]; exact a6
  · rw [hf _ (by omega)]; exact b1
  · rw [hf _ (by omega)]; exact b2
  · rw [hf _ (by omega)]; exact b3
  · rw [hf _ (by omega)]; exact b4
  · rw [hf _ (by omega), hf (81 + p2) (by omega), hf (0 + p2) (by omega), hf (10 + p2) (by omega)]
    exact c p2 q1 q2
  · have q3 : k < lv 1 := q2
    rw [hf _ (by omega), hf (20 + 3 * k + 1) (by omega), hf (20 + 3 * k + 2) (by omega)]
    exact d k q1 q2
  · have q3 : k < 0 := q2
    omega
theorem KR_force {K : Int → Int} {lv : Nat → Int} {L : Nat → Int → Int} (h : KR K lv L) (hlo : LOK lv L) (n : Int) : KR (im_up K 113 n) (pl_U lv 5 n) L := by
  obtain ⟨⟨a1, a2, a3, a4, a5, a6⟩, ⟨b1, b2, b3, b4⟩, c, d, e⟩ := h
  have hg := lk_grp hlo
  have hh := lk_hrd hlo
  have hf : ∀ i, i ≠ 113 → im_up K 113 n i = K i := fun i q1 => im_up_ne _ _ q1
  refine ⟨⟨?_, ?_, ?_, ?_, ?_, ?_⟩, ⟨?_, ?_, ?_, ?_⟩, fun p2 q1 q2 => ?_, fun k q1 q2 => ?_, fun k q1 q2 => ?_⟩
  · rw [hf _ (by omega)]; exact a1
  · rw [hf _ (by omega)]; exact a2
  · rw [hf _ (by omega)]; exact a3
  · rw [hf _ (by omega)]; exact a4
  · rw [hf _ (by omega)]; exact a5
  · rw [im_up_self]; rfl
  · rw [hf _ (by omega)]; exact b1
  · rw [hf _ (by omega)]; exact b2
  · rw [hf _ (by omega)]; exact b3
  · rw [hf _ (by omega)]; exact b4
  · rw [hf _ (by omega), hf (81 + p2) (by omega), hf (0 + p2) (by omega), hf (10 + p2) (by omega)]
    exact c p2 q1 q2
  · have q3 : k < lv 1 := q2
    rw [hf _ (by omega), hf (20 + 3 * k + 1) (by omega), hf (20 + 3 * k + 2) (by omega)]
    exact d k q1 q2
  · have q3 : k < lv 3 := q2
    rw [hf _ (by omega), hf (91 + 2 * k + 1) (by omega)]
    exact e k q1 q2
theorem KR_terms {K : Int → Int} {lv : Nat → Int} {L : Nat → Int → Int} (h : KR K lv L) (hlo : LOK lv L) {t : Int} (ht : t = 0 ∨ t = 1 ∨ t = 2 ∨ t = 3) (x : Int) : K (ti_at t) = L 7 t ∧ KR (im_up K (ti_at t) x) lv (pl_U L 7 (im_up (L 7) t x)) := by
  obtain ⟨⟨a1, a2, a3, a4, a5, a6⟩, ⟨b1, b2, b3, b4⟩, c, d, e⟩ := h
  have hg := lk_grp hlo
  have hh := lk_hrd hlo
  have hta : ti_at t = (if t = 0 then 70 else 107 + t - 1) := rfl
  have h1 : K (ti_at t) = L 7 t := by
    rcases ht with rfl | rfl | rfl | rfl
    · exact b1
    · exact b2
    · exact b3
    · exact b4
  have htb : ti_at t = 70 ∨ ti_at t = 107 ∨ ti_at t = 108 ∨ ti_at t = 109 := by rcases ht with rfl | rfl | rfl | rfl <;> decide
  have hf : ∀ i, i ≠ 70 → i ≠ 107 → i ≠ 108 → i ≠ 109 → im_up K (ti_at t) x i = K i := fun i q1 q2 q3 q4 => im_up_ne _ _ (by omega)
  refine ⟨h1, ⟨?_, ?_, ?_, ?_, ?_, ?_⟩, ?_, fun p2 q1 q2 => ?_, fun k q1 q2 => ?_, fun k q1 q2 => ?_⟩
  · rw [hf _ (by omega) (by omega) (by omega) (by omega)]; exact a1
  · rw [hf _ (by omega) (by omega) (by omega) (by omega)]; exact a2
  · rw [hf _ (by omega) (by omega) (by omega) (by omega)]; exact a3
  · rw [hf _ (by omega) (by omega) (by omega) (by omega)]; exact a4
  · rw [hf _ (by omega) (by omega) (by omega) (by omega)]; exact a5
  · rw [hf _ (by omega) (by omega) (by omega) (by omega)]; exact a6
  · show im_up K (ti_at t) x 70 = im_up (L 7) t x 0 ∧ im_up K (ti_at t) x 107 = im_up (L 7) t x 1 ∧ im_up K (ti_at t) x 108 = im_up (L 7) t x 2 ∧ im_up K (ti_at t) x 109 = im_up (L 7) t x 3
    rcases ht with rfl | rfl | rfl | rfl
    · exact ⟨rfl, b2, b3, b4⟩
    · exact ⟨b1, rfl, b3, b4⟩
    · exact ⟨b1, b2, rfl, b4⟩
    · exact ⟨b1, b2, b3, rfl⟩
  · rw [hf _ (by omega) (by omega) (by omega) (by omega), hf (81 + p2) (by omega) (by omega) (by omega) (by omega), hf (0 + p2) (by omega) (by omega) (by omega) (by omega), hf (10 + p2) (by omega) (by omega) (by omega) (by omega)]
    exact c p2 q1 q2
  · rw [hf _ (by omega) (by omega) (by omega) (by omega), hf (20 + 3 * k + 1) (by omega) (by omega) (by omega) (by omega), hf (20 + 3 * k + 2) (by omega) (by omega) (by omega) (by omega)]
    exact d k q1 q2
  · rw [hf _ (by omega) (by omega) (by omega) (by omega), hf (91 + 2 * k + 1) (by omega) (by omega) (by omega) (by omega)]
    exact e k q1 q2
