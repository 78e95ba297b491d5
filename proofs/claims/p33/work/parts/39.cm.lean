/-! the checker is sound: measures, and all together -/
theorem ck_sumi_neg (g : Nat → Int) : ∀ n, ck_sumi (fun k => -(g k)) n = -(ck_sumi g n)
  | 0 => rfl
  | n + 1 => by
    show ck_sumi (fun k => -(g k)) n + -(g n) = -(ck_sumi g n + g n)
    rw [ck_sumi_neg g n]
    omega
theorem ck_sumi_sub (g h : Nat → Int) : ∀ n, ck_sumi (fun k => g k - h k) n = ck_sumi g n - ck_sumi h n
  | 0 => rfl
  | n + 1 => by
    show ck_sumi (fun k => g k - h k) n + (g n - h n) = (ck_sumi g n + g n) - (ck_sumi h n + h n)
    rw [ck_sumi_sub g h n]
    omega
theorem ck_sum_le {f : Nat → Option Int} {g : Nat → Int} (h : ∀ k b, f k = some b → g k ≤ b) : ∀ (n : Nat) (s : Int), ck_sumo f n = some s → ck_sumi g n ≤ s
  | 0, s, e => by
    cases e
    exact Int.le_refl _
  | n + 1, s, e => by
    unfold ck_sumo at e
    split at e
    · rename_i x y e1 e2
      cases e
      have h1 := ck_sum_le h n x e1
      have h2 := h n y e2
      show ck_sumi g n + g n ≤ x + y
      omega
    · cases e
section CkM
variable {ro : ab_R} {sp : Nat → ty_S} {fb : List (Nat × Nat)} {G : Nat → Nat} {own : Nat}
theorem ck_ub_ok {A : ck_A} {L : ab_L} (hl : ck_lcs G A.1 L) {c b : Int} {k : Nat} (h : ck_ub c (ck_iv A k) = some b) : c * ck_li L k ≤ b := by
  unfold ck_ub at h
  split at h
  · rename_i e
    cases h
    rw [e, Int.zero_mul]
    exact Int.le_refl _
  · split at h
    · rename_i lo hi e
      cases h
      unfold ck_iv at e
      split at e
      · rename_i t e1
        subst e
        obtain ⟨v, h1, h2⟩ := hl.2 k _ e1
        obtain ⟨x, rfl, h3, h4⟩ := ty_int h2 rfl
        dsimp only at h3 h4
        have h5 : ck_li L k = x.toInt := by unfold ck_li; rw [h1]
        rw [h5]
        split
        · rename_i hc
          exact Int.mul_le_mul_of_nonneg_left h4 hc
        · rename_i hc
          exact Int.mul_le_mul_of_nonpos_left (by omega) h3
      · cases e
    · cases h
theorem ck_ub_num {c b lo hi x : Int} (h : ck_ub c (some (0, lo, hi)) = some b) (h1 : lo ≤ x) (h2 : x ≤ hi) : c * x ≤ b := by
  unfold ck_ub at h
  split at h
  · rename_i e
    cases h
    rw [e, Int.zero_mul]
    exact Int.le_refl _
  · cases h
    split
    · rename_i hc
      exact Int.mul_le_mul_of_nonneg_left h2 hc
    · rename_i hc
      exact Int.mul_le_mul_of_nonpos_left (by omega) h1
theorem ck_pos_ok {A : ck_A} {L : ab_L} (hl : ck_lcs G A.1 L) {n : Nat} {m : ck_M} (h : ck_pos n m A = true) : 0 ≤ ck_mv n m L := by
  unfold ck_pos at h
  split at h
  · rename_i s e
    rw [decide_eq_true_eq] at h
    have h1 := ck_sum_le (g := fun k => -(ck_cf m k * ck_li L k)) (fun k b hb => by
      have := ck_ub_ok hl hb
      rw [Int.neg_mul] at this
      exact this) n s e
    rw [ck_sumi_neg] at h1
    unfold ck_mv
    omega
  · cases h
theorem ck_df_ok {A : ck_A} {L L' : ab_L} (hl : ck_lcs G A.1 L) {H : ck_H} (hh : ck_hok H L L') {m m' : ck_M} {k : Nat} {b : Int} (h : ck_df H m m' A k = some b) : ck_cf m' k * ck_li L' k - ck_cf m k * ck_li L k ≤ b := by
  have same : ∀ {b : Int}, ck_ub (ck_cf m' k - ck_cf m k) (ck_iv A k) = some b → ck_li L' k = ck_li L k → ck_cf m' k * ck_li L' k - ck_cf m k * ck_li L k ≤ b := by
    intro b hb e
    have := ck_ub_ok hl hb
    rw [Int.sub_mul] at this
    rw [e]
    exact this
  have zero : ∀ {b : Int}, ck_ub (-(ck_cf m k)) (ck_iv A k) = some b → ck_li L' k = 0 → ck_cf m' k * ck_li L' k - ck_cf m k * ck_li L k ≤ b := by
    intro b hb e
    have := ck_ub_ok hl hb
    rw [Int.neg_mul] at this
    rw [e, Int.mul_zero]
    omega
  unfold ck_df at h
  split at h
  · exact same h (hh k)
  · rename_i K nn _
    cases e : Nat.beq k K with
    | false =>
      rw [e] at h
      exact same h (hh.2 k (fun z => by rw [z, Nat.beq_refl] at e; cases e))
    | true =>
      rw [e] at h
      have e := Nat.eq_of_beq_eq_true e
      subst e
      have h : ck_oadd (ck_ub (ck_cf m' k - ck_cf m k) (ck_iv A k)) (some (ck_cf m' k * nn)) = some b := h
      unfold ck_oadd at h
      split at h
      · rename_i x y e1 e2
        cases h
        cases e2
        have h1 := ck_ub_ok hl e1
        have h2 : ck_li L' k = ck_li L k + nn := hh.1
        rw [Int.sub_mul] at h1
        rw [h2, Int.mul_add]
        omega
      · cases h
  · rename_i K lo hi
    cases e : Nat.beq k K with
    | false =>
      rw [e] at h
      exact same h (hh.2 k (fun z => by rw [z, Nat.beq_refl] at e; cases e))
    | true =>
      rw [e] at h
      have e := Nat.eq_of_beq_eq_true e
      subst e
      have h : ck_oadd (ck_ub (-(ck_cf m k)) (ck_iv A k)) (ck_ub (ck_cf m' k) (some (0, lo, hi))) = some b := h
      unfold ck_oadd at h
      split at h
      · rename_i x y e1 e2
        cases h
        have h1 := ck_ub_ok hl e1
        have h2 := ck_ub_num e2 hh.1.1 hh.1.2
        rw [Int.neg_mul] at h1
        omega
      · cases h
  · rename_i K _ _
    cases e : Nat.beq k K with
    | false =>
      rw [e] at h
      exact same h (hh.2 k (fun z => by rw [z, Nat.beq_refl] at e; cases e))
    | true =>
      rw [e] at h
      have e := Nat.eq_of_beq_eq_true e
      subst e
      exact zero h hh.1
  · rename_i q K _ _ n0 n1 n2 n3
    have hh : (ck_li L' K = 0 ∧ ck_li L' (K + 1) = 0) ∧ ∀ k, k ≠ K → k ≠ K + 1 → ck_li L' k = ck_li L k := by
      unfold ck_hok at hh
      split at hh
      · rename_i z
        cases z
        exact False.elim (n0 rfl)
      · rename_i z
        cases z
        exact False.elim (n1 rfl)
      · rename_i z
        cases z
        exact False.elim (n2 rfl)
      · rename_i z
        cases z
        exact False.elim (n3 rfl)
      · rename_i z
        cases z
        exact hh
    cases e : (Nat.beq k K || Nat.beq k (K + 1)) with
    | false =>
      rw [e] at h
      rw [Bool.or_eq_false_iff] at e
      exact same h (hh.2 k (fun z => by rw [z, Nat.beq_refl] at e; cases e.1) (fun z => by rw [z, Nat.beq_refl] at e; cases e.2))
    | true =>
      rw [e] at h
      rw [Bool.or_eq_true] at e
      rcases e with e | e
      · have e := Nat.eq_of_beq_eq_true e
        subst e
        exact zero h hh.1.1
      · have e := Nat.eq_of_beq_eq_true e
        subst e
        exact zero h hh.1.2
theorem ck_dec_ok {A : ck_A} {L L' : ab_L} (hl : ck_lcs G A.1 L) {H : ck_H} (hh : ck_hok H L L') {n : Nat} {m m' : ck_M} (h : ck_dec n H m m' A = true) : ck_mv n m' L' < ck_mv n m L := by
  unfold ck_dec at h
  split at h
  · rename_i s e
    rw [decide_eq_true_eq] at h
    have h1 := ck_sum_le (g := fun k => ck_cf m' k * ck_li L' k - ck_cf m k * ck_li L k) (fun k b hb => ck_df_ok hl hh hb) n s e
    rw [ck_sumi_sub] at h1
    unfold ck_mv
    omega
  · cases h
end CkM
