/-! rows of parishes, of a land alone; kept and the land: a parish more -/
theorem KR_add {K : Int → Int} {lv : Nat → Int} {L : Nat → Int → Int} (h : KR K lv L) (hlo : LOK lv L) {u c : Int} (hu : -1 ≤ u ∧ u < lv 0) (hc : 0 ≤ c ∧ c ≤ 999) (hn : lv 0 ≤ 9) : (pl_add u c lv L).1 = lv 0 ∧ KR (kp_add u c K) (pl_add u c lv L).2.1 (pl_add u c lv L).2.2 := by
  have hpar := lk_par hlo
  have e : pl_add u c lv L = (lv 0, pl_U lv 0 (lv 0 + 1), pl_U (pl_U (pl_U (pl_U L 0 (im_up (L 0) (lv 0) u)) 1 (im_up (L 1) (lv 0) (pl_ad1 u L))) 2 (im_up (L 2) (lv 0) c)) 3 (im_up (L 3) (lv 0) 0)) := by
    unfold pl_add
    rw [if_neg (by omega), if_neg (by omega)]
  rw [e]
  refine ⟨rfl, ?_⟩
  obtain ⟨⟨a1, a2, a3, a4, a5, a6⟩, b, c4, d, f⟩ := h
  have k3 : ∀ i, i ≠ 71 + K 110 → i ≠ 0 + K 110 → i ≠ 10 + K 110 → kp_ad3 u c K i = K i := fun i q1 q2 q3 => by
    unfold kp_ad3
    rw [im_up_ne _ _ q3, im_up_ne _ _ q2, im_up_ne _ _ q1]
  have k4 : ∀ i, i ≠ 81 + K 110 → kp_ad4 u c K i = kp_ad3 u c K i := fun i q => im_up_ne _ _ q
  have k5 : ∀ i, i ≠ 110 → kp_add u c K i = kp_ad4 u c K i := fun i q => im_up_ne _ _ q
  have kk : ∀ i, i ≠ 71 + K 110 → i ≠ 0 + K 110 → i ≠ 10 + K 110 → i ≠ 81 + K 110 → i ≠ 110 → kp_add u c K i = K i := fun i q1 q2 q3 q4 q5 => by rw [k5 i q5, k4 i q4, k3 i q1 q2 q3]
  refine ⟨⟨?_, ?_, ?_, ?_, ?_, ?_⟩, ⟨?_, ?_, ?_, ?_⟩, fun p q1 q2 => ?_, fun k q1 q2 => ?_, fun k q1 q2 => ?_⟩
  · show im_up _ 110 _ 110 = lv 0 + 1
    rw [im_up_self, k4 _ (by omega), k3 _ (by omega) (by omega) (by omega), a1]
  · exact (kk 68 (by omega) (by omega) (by omega) (by omega) (by decide)).trans a2
  · exact (kk 69 (by omega) (by omega) (by omega) (by omega) (by decide)).trans a3
  · exact (kk 111 (by omega) (by omega) (by omega) (by omega) (by decide)).trans a4
  · exact (kk 112 (by omega) (by omega) (by omega) (by omega) (by decide)).trans a5
  · exact (kk 113 (by omega) (by omega) (by omega) (by omega) (by decide)).trans a6
  · exact (kk 70 (by omega) (by omega) (by omega) (by omega) (by decide)).trans b.1
  · exact (kk 107 (by omega) (by omega) (by omega) (by omega) (by decide)).trans b.2.1
  · exact (kk 108 (by omega) (by omega) (by omega) (by omega) (by decide)).trans b.2.2.1
  · exact (kk 109 (by omega) (by omega) (by omega) (by omega) (by decide)).trans b.2.2.2
  · obtain ⟨c1, c2, c3, c5⟩ := c4 p q1 q2
    show kp_add u c K (71 + p) = im_up (L 0) (lv 0) u p ∧ kp_add u c K (81 + p) = im_up (L 1) (lv 0) (pl_ad1 u L) p ∧ kp_add u c K (0 + p) = im_up (L 2) (lv 0) c p ∧ kp_add u c K (10 + p) = im_up (L 3) (lv 0) 0 p
    by_cases ep : p = lv 0
    · rw [ep, im_up_self, im_up_self, im_up_self, im_up_self, ← a1]
      refine ⟨?_, ?_, ?_, ?_⟩
      · rw [k5 _ (by omega), k4 _ (by omega)]
        unfold kp_ad3
        rw [im_up_ne _ _ (by omega), im_up_ne _ _ (by omega), im_up_self]
      · rw [k5 _ (by omega)]
        show im_up _ _ _ _ = _
        rw [im_up_self]
        unfold pl_ad1
        by_cases eu : u = -1
        · rw [if_pos eu, if_pos eu]
        · rw [if_neg eu, if_neg eu, k3 _ (by omega) (by omega) (by omega), (c4 u (by omega) (by omega)).2.1]
      · rw [k5 _ (by omega), k4 _ (by omega)]
        unfold kp_ad3
        rw [im_up_ne _ _ (by omega), im_up_self]
      · rw [k5 _ (by omega), k4 _ (by omega)]
        unfold kp_ad3
        rw [im_up_self]
    · rw [im_up_ne _ _ ep, im_up_ne _ _ ep, im_up_ne _ _ ep, im_up_ne _ _ ep, kk _ (by omega) (by omega) (by omega) (by omega) (by omega), kk _ (by omega) (by omega) (by omega) (by omega) (by omega), kk _ (by omega) (by omega) (by omega) (by omega) (by omega), kk _ (by omega) (by omega) (by omega) (by omega) (by omega)]
      exact ⟨c1, c2, c3, c5⟩
  · obtain ⟨d1, d2, d3⟩ := d k q1 q2
    have hg := lk_grp hlo
    have q2' : k < lv 1 := q2
    rw [kk _ (by omega) (by omega) (by omega) (by omega) (by omega), kk _ (by omega) (by omega) (by omega) (by omega) (by omega), kk _ (by omega) (by omega) (by omega) (by omega) (by omega)]
    exact ⟨d1, d2, d3⟩
  · obtain ⟨f1, f2⟩ := f k q1 q2
    have hh := lk_hrd hlo
    have q2' : k < lv 3 := q2
    rw [kk _ (by omega) (by omega) (by omega) (by omega) (by omega), kk _ (by omega) (by omega) (by omega) (by omega) (by omega)]
    exact ⟨f1, f2⟩
theorem kp_add_far {u c i : Int} {K : Int → Int} (h : 0 ≤ K 110 ∧ K 110 ≤ 9) (hi : 111 ≤ i) : kp_add u c K i = K i := by
  show im_up (im_up (im_up (im_up (im_up K _ _) _ _) _ _) _ _) 110 _ i = _
  rw [im_up_ne _ _ (by omega), im_up_ne _ _ (by omega), im_up_ne _ _ (by omega), im_up_ne _ _ (by omega), im_up_ne _ _ (by omega)]
/-- a row's threes: how many came, how many are stones, the land -/
abbrev rk_Q : Type := (Int × Int) × (Nat → Int) × (Nat → Int → Int)
def rk (A : Int → Int) (b : Int) (v : Nat → Int) (R : Nat → Int → Int) : Nat → rk_Q
  | 0 => ((0, 0), v, R)
  | k + 1 => (((rk A b v R k).1.1 + (ob_tape (3 * (k : Int)) b A (rk A b v R k).2.1 (rk A b v R k).2.2).1, (rk A b v R k).1.2 + (1 - (ob_tape (3 * (k : Int)) b A (rk A b v R k).2.1 (rk A b v R k).2.2).1)), (ob_tape (3 * (k : Int)) b A (rk A b v R k).2.1 (rk A b v R k).2.2).2)
theorem ob_tape_ok {at_ b : Int} {A : Int → Int} {v : Nat → Int} {R : Nat → Int → Int} (h : LOK v R) : LOK (ob_tape at_ b A v R).2.1 (ob_tape at_ b A v R).2.2 ∧ ((ob_tape at_ b A v R).1 = 0 ∨ (ob_tape at_ b A v R).1 = 1) := by
  unfold ob_tape
  split
  · exact ⟨h, Or.inl rfl⟩
  · refine ⟨LOK_add h _ _, ?_⟩
    dsimp only
    split
    · exact Or.inl rfl
    · exact Or.inr rfl
theorem rk_ok {A : Int → Int} {b : Int} {v : Nat → Int} {R : Nat → Int → Int} (h : LOK v R) : ∀ k : Nat, LOK (rk A b v R k).2.1 (rk A b v R k).2.2 ∧ (0 ≤ (rk A b v R k).1.1 ∧ (rk A b v R k).1.1 ≤ k) ∧ 0 ≤ (rk A b v R k).1.2 ∧ (rk A b v R k).1.2 ≤ k
  | 0 => ⟨h, ⟨Int.le_refl _, Int.le_refl _⟩, Int.le_refl _, Int.le_refl _⟩
  | k + 1 => by
    obtain ⟨i1, i2, i3⟩ := rk_ok (A := A) (b := b) h k
    obtain ⟨o1, o2⟩ := ob_tape_ok (at_ := 3 * (k : Int)) (b := b) (A := A) i1
    refine ⟨o1, ?_, ?_⟩
    · show 0 ≤ (rk A b v R k).1.1 + (ob_tape _ b A _ _).1 ∧ (rk A b v R k).1.1 + (ob_tape _ b A _ _).1 ≤ ((k + 1 : Nat) : Int)
      omega
    · show 0 ≤ (rk A b v R k).1.2 + (1 - (ob_tape _ b A _ _).1) ∧ (rk A b v R k).1.2 + (1 - (ob_tape _ b A _ _).1) ≤ ((k + 1 : Nat) : Int)
      omega
/-- how many threes there are, the last one short perhaps -/
def rk_n (b : Int) : Nat := ((b + 2) / 3).toNat
theorem rk_last {A : Int → Int} {b : Int} (hb : 0 ≤ b) {v : Nat → Int} {R : Nat → Int → Int} (h : ¬ b % 3 = 0) : rk A b v R (rk_n b) = (((rk A b v R (b / 3).toNat).1.1, (rk A b v R (b / 3).toNat).1.2 + 1), (rk A b v R (b / 3).toNat).2) := by
  have e : rk_n b = (b / 3).toNat + 1 := by
    unfold rk_n
    omega
  have e2 : ∀ (v2 : Nat → Int) (R2 : Nat → Int → Int), ob_tape (3 * (((b / 3).toNat : Nat) : Int)) b A v2 R2 = (0, v2, R2) := fun v2 R2 => if_pos (by omega)
  rw [e]
  show ((_ + (ob_tape _ b A _ _).1, _ + (1 - (ob_tape _ b A _ _).1)), (ob_tape _ b A _ _).2) = _
  rw [e2]
  simp
theorem rk_full {b : Int} (hb : 0 ≤ b) (h : b % 3 = 0) : rk_n b = (b / 3).toNat := by
  unfold rk_n
  omega
/-- what of() answers -/
def of_ans (lw : Option im_T) (v : Nat → Int) (R : Nat → Int → Int) (p what : Int) : Int := if ¬ (0 ≤ p ∧ p < v 0) then -1000 else if what = 0 then R 0 p else if what = 1 then R 2 p else if what = 2 then R 1 p else if what = 3 then R 3 p else if what = 4 then as_tens lw p 0 R else if what = 5 then as_over lw p 0 R else if what = 6 then as_over lw p 0 R - as_stay lw p 0 R else if what = 7 then as_steps lw p 0 R else if what = 8 then as_bar lw p 0 R else if what = 9 then st_sum lw v R 10 p else -1000
