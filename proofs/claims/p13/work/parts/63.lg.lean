/-! to lend, to grow: kept and the land -/
theorem grow_rel {v : Nat → Int} {R : Nat → Int → Int} {lv : Nat → Int} {L : Nat → Int → Int} (hr : KR (R 2) lv L) (hk : LOK lv L) (p b : Int) : (km_grow p b v R).1 = (pl_growBy p b lv L).1 ∧ KR ((km_grow p b v R).2.2 2) lv (pl_growBy p b lv L).2 ∧ (∀ i, 71 ≤ i → (km_grow p b v R).2.2 2 i = R 2 i) := by
  have hpar := lk_par hk
  have e110 := hr.1.1
  by_cases h1 : -99 ≤ b ∧ b ≤ 99
  · by_cases h2 : 0 ≤ p ∧ p ≤ R 2 110 - 1
    · have ec := (hr.2.2.1 p h2.1 (by omega)).2.2.1
      by_cases h3 : 0 ≤ R 2 (0 + p) + b ∧ R 2 (0 + p) + b ≤ 999
      · have e1 : km_grow p b v R = (im_up (R 2) (0 + p) (R 2 (0 + p) + b) (0 + p), pl_U v 34 (kp_un v + 1), pl_U (pl_U R 14 (kp_keep 3 v R)) 2 (im_up (R 2) (0 + p) (R 2 (0 + p) + b))) := (if_pos h1).trans ((if_pos h2).trans (if_pos h3))
        have e2 : pl_growBy p b lv L = (L 2 p + b, pl_U L 2 (im_up (L 2) p (L 2 p + b))) := (if_neg (by omega)).trans ((if_neg (by omega)).trans (if_neg (by omega)))
        rw [e1, e2]
        refine ⟨?_, ?_, fun i hi => im_up_ne _ _ (by omega)⟩
        · show im_up (R 2) (0 + p) (R 2 (0 + p) + b) (0 + p) = L 2 p + b
          rw [im_up_self, ec]
        · show KR (im_up (R 2) (0 + p) (R 2 (0 + p) + b)) lv (pl_U L 2 (im_up (L 2) p (L 2 p + b)))
          rw [ec]
          exact KR_cnt hr (by omega) _
      · have e1 : km_grow p b v R = (-3, v, R) := (if_pos h1).trans ((if_pos h2).trans (if_neg h3))
        have e2 : pl_growBy p b lv L = (-3, L) := (if_neg (by omega)).trans ((if_neg (by omega)).trans (if_pos (by omega)))
        rw [e1, e2]
        exact ⟨rfl, hr, fun _ _ => rfl⟩
    · have e1 : km_grow p b v R = (-2, v, R) := (if_pos h1).trans (if_neg h2)
      have e2 : pl_growBy p b lv L = (-2, L) := (if_neg (by omega)).trans (if_pos (by omega))
      rw [e1, e2]
      exact ⟨rfl, hr, fun _ _ => rfl⟩
  · have e1 : km_grow p b v R = (-1, v, R) := if_neg h1
    have e2 : pl_growBy p b lv L = (-1, L) := if_pos (by omega)
    rw [e1, e2]
    exact ⟨rfl, hr, fun _ _ => rfl⟩
theorem lend_rel {v : Nat → Int} {R : Nat → Int → Int} {lv : Nat → Int} {L : Nat → Int → Int} (hr : KR (R 2) lv L) (hk : LOK lv L) (a b n : Int) : (km_lend a b n v R).1 = (pl_lend a b n lv L).1 ∧ KR ((km_lend a b n v R).2.2 2) lv (pl_lend a b n lv L).2 ∧ (∀ i, 71 ≤ i → (km_lend a b n v R).2.2 2 i = R 2 i) := by
  have hpar := lk_par hk
  have e110 := hr.1.1
  by_cases h1 : 1 ≤ n ∧ n ≤ 99
  · by_cases h2 : (0 ≤ a ∧ a ≤ R 2 110 - 1) ∧ (0 ≤ b ∧ b ≤ R 2 110 - 1)
    · obtain ⟨eba, -, eca, -⟩ := hr.2.2.1 a h2.1.1 (by omega)
      obtain ⟨ebb, -, ecb, -⟩ := hr.2.2.1 b h2.2.1 (by omega)
      by_cases h3 : (R 2 (71 + a) = b ∨ R 2 (71 + b) = a) ∧ n ≤ R 2 (0 + a) ∧ R 2 (0 + b) + n ≤ 999
      · have e1 : km_lend a b n v R = (im_up (im_up (R 2) (0 + a) (R 2 (0 + a) - n)) (0 + b) (im_up (R 2) (0 + a) (R 2 (0 + a) - n) (0 + b) + n) (0 + a), pl_U v 34 (kp_un v + 1), pl_U (pl_U R 14 (kp_keep 2 v R)) 2 (im_up (im_up (R 2) (0 + a) (R 2 (0 + a) - n)) (0 + b) (im_up (R 2) (0 + a) (R 2 (0 + a) - n) (0 + b) + n))) := (if_pos h1).trans ((if_pos h2).trans (if_pos h3))
        have e2 : pl_lend a b n lv L = (im_up (im_up (L 2) a (L 2 a - n)) b (im_up (L 2) a (L 2 a - n) b + n) a, pl_U L 2 (im_up (im_up (L 2) a (L 2 a - n)) b (im_up (L 2) a (L 2 a - n) b + n))) := (if_neg (by omega)).trans ((if_neg (by omega)).trans (if_neg (by omega)))
        have e3 : im_up (R 2) (0 + a) (R 2 (0 + a) - n) (0 + b) = im_up (L 2) a (L 2 a - n) b := by
          unfold im_up
          rw [eca, ecb]
          by_cases z : b = a
          · rw [if_pos (by omega), if_pos z]
          · rw [if_neg (by omega), if_neg z]
        have k1 := KR_cnt hr (p := a) (by omega) (R 2 (0 + a) - n)
        have k2 := KR_cnt k1 (p := b) (by omega) (im_up (R 2) (0 + a) (R 2 (0 + a) - n) (0 + b) + n)
        rw [e1, e2]
        refine ⟨?_, ?_, fun i hi => ?_⟩
        · show im_up (im_up (R 2) (0 + a) (R 2 (0 + a) - n)) (0 + b) (im_up (R 2) (0 + a) (R 2 (0 + a) - n) (0 + b) + n) (0 + a) = im_up (im_up (L 2) a (L 2 a - n)) b (im_up (L 2) a (L 2 a - n) b + n) a
          have t := (k2.2.2.1 a h2.1.1 (by omega)).2.2.1
          rw [t, e3, eca]
          rfl
        · show KR (im_up (im_up (R 2) (0 + a) (R 2 (0 + a) - n)) (0 + b) (im_up (R 2) (0 + a) (R 2 (0 + a) - n) (0 + b) + n)) lv (pl_U L 2 (im_up (im_up (L 2) a (L 2 a - n)) b (im_up (L 2) a (L 2 a - n) b + n)))
          rw [e3, eca] at k2
          rw [e3, eca]
          refine KR_same k2 (fun j _ => rfl) ⟨fun x _ _ => ⟨rfl, rfl, rfl, rfl⟩, rfl, rfl, rfl, rfl, rfl, rfl⟩
        · show im_up (im_up (R 2) (0 + a) _) (0 + b) _ i = _
          rw [im_up_ne _ _ (by omega), im_up_ne _ _ (by omega)]
      · have e1 : km_lend a b n v R = (-3, v, R) := (if_pos h1).trans ((if_pos h2).trans (if_neg h3))
        have e2 : pl_lend a b n lv L = (-3, L) := (if_neg (by omega)).trans ((if_neg (by omega)).trans (if_pos (by omega)))
        rw [e1, e2]
        exact ⟨rfl, hr, fun _ _ => rfl⟩
    · have e1 : km_lend a b n v R = (-2, v, R) := (if_pos h1).trans (if_neg h2)
      have e2 : pl_lend a b n lv L = (-2, L) := (if_neg (by omega)).trans (if_pos (by omega))
      rw [e1, e2]
      exact ⟨rfl, hr, fun _ _ => rfl⟩
  · have e1 : km_lend a b n v R = (-1, v, R) := if_neg h1
    have e2 : pl_lend a b n lv L = (-1, L) := if_pos (by omega)
    rw [e1, e2]
    exact ⟨rfl, hr, fun _ _ => rfl⟩
