/-! the checker is sound: the single instructions, on -/
section CkP
variable {ro : ab_R} {sp : Nat → ty_S} {fb : List (Nat × Nat)} {G : Nat → Nat} {own : Nat}
theorem ck_bin_ok {A A' : ck_A} {pc pc' : Nat} {f : ty_A → ty_A → ty_A} {H : ck_H} {L : ab_L} {st : List Value} {w : ab_W} (h : ck_bin A pc f = some (pc', A', H)) (hm : ck_ms G A L st w) : ∃ (s t : ty_A) (x y : Int32) (r : List Value) (q : ck_V) (rs : List ck_V), st = .int y :: .int x :: r ∧ A.2.1 = (t, q.2) :: rs ∧ ty_v G s (.int x) ∧ ty_v G t (.int y) ∧ pc' = pc + 1 ∧ H = (0, 0, 0, 0) ∧ ∀ z : Int32, ty_v G (f s t) (.int z) → ck_ms G A' L (.int z :: r) w := by
  unfold ck_bin at h
  split at h
  · rename_i t gt s gs r e
    cases hb : (Nat.beq s.1 0 && Nat.beq t.1 0) with
    | false => rw [hb] at h; cases h
    | true =>
      rw [hb] at h
      cases h
      rw [Bool.and_eq_true] at hb
      obtain ⟨v, rs, rfl, h2, _, h4⟩ := ck_one hm e
      obtain ⟨u, rs2, rfl, h5, _, h6⟩ := ck_stk_one h4
      obtain ⟨y, rfl, _⟩ := ty_int h2 (Nat.eq_of_beq_eq_true hb.2)
      obtain ⟨x, rfl, _⟩ := ty_int h5 (Nat.eq_of_beq_eq_true hb.1)
      exact ⟨s, t, x, y, rs2, (t, gt), _, rfl, e, h5, h2, rfl, rfl, fun z hz => ck_push_ok (ck_pop_ok hm h6) hz trivial⟩
  · cases h
theorem ck_s_iadd : ck_S ro sp fb G own .iadd := by
  intro tgt pc A pc' A' H L st w a b h hm hw
  simp only [ck_nx] at h
  obtain ⟨s, t, x, y, r, q, rs, rfl, _, h1, h2, rfl, rfl, k⟩ := ck_bin_ok h hm
  exact ck_pure rfl trivial (k _ (ck_add_ok h1 h2)) hw
theorem ck_s_isub : ck_S ro sp fb G own .isub := by
  intro tgt pc A pc' A' H L st w a b h hm hw
  simp only [ck_nx] at h
  obtain ⟨s, t, x, y, r, q, rs, rfl, _, h1, h2, rfl, rfl, k⟩ := ck_bin_ok h hm
  exact ck_pure rfl trivial (k _ (ck_sub_ok h1 h2)) hw
theorem ck_s_imul : ck_S ro sp fb G own .imul := by
  intro tgt pc A pc' A' H L st w a b h hm hw
  simp only [ck_nx] at h
  obtain ⟨s, t, x, y, r, q, rs, rfl, _, h1, h2, rfl, rfl, k⟩ := ck_bin_ok h hm
  exact ck_pure rfl trivial (k _ (ck_mul_ok h1 h2)) hw
theorem ck_s_iand : ck_S ro sp fb G own .iand := by
  intro tgt pc A pc' A' H L st w a b h hm hw
  simp only [ck_nx] at h
  obtain ⟨s, t, x, y, r, q, rs, rfl, _, h1, h2, rfl, rfl, k⟩ := ck_bin_ok h hm
  exact ck_pure rfl trivial (k _ (ck_and_ok h1 h2)) hw
theorem ck_s_ior : ck_S ro sp fb G own .ior := by
  intro tgt pc A pc' A' H L st w a b h hm hw
  simp only [ck_nx] at h
  obtain ⟨s, t, x, y, r, q, rs, rfl, _, h1, h2, rfl, rfl, k⟩ := ck_bin_ok h hm
  exact ck_pure rfl trivial (k _ (ck_or_ok h1 h2)) hw
theorem ck_s_ixor : ck_S ro sp fb G own .ixor := by
  intro tgt pc A pc' A' H L st w a b h hm hw
  simp only [ck_nx] at h
  obtain ⟨s, t, x, y, r, q, rs, rfl, _, h1, h2, rfl, rfl, k⟩ := ck_bin_ok h hm
  exact ck_pure rfl trivial (k _ (ck_top_ok _)) hw
theorem ck_s_ishl : ck_S ro sp fb G own .ishl := by
  intro tgt pc A pc' A' H L st w a b h hm hw
  simp only [ck_nx] at h
  obtain ⟨s, t, x, y, r, q, rs, rfl, _, h1, h2, rfl, rfl, k⟩ := ck_bin_ok h hm
  exact ck_pure rfl trivial (k _ (ck_shl_ok h1 h2)) hw
theorem ck_s_ishr : ck_S ro sp fb G own .ishr := by
  intro tgt pc A pc' A' H L st w a b h hm hw
  simp only [ck_nx] at h
  obtain ⟨s, t, x, y, r, q, rs, rfl, _, h1, h2, rfl, rfl, k⟩ := ck_bin_ok h hm
  exact ck_pure rfl trivial (k _ (ck_top_ok _)) hw
theorem ck_s_iushr : ck_S ro sp fb G own .iushr := by
  intro tgt pc A pc' A' H L st w a b h hm hw
  simp only [ck_nx] at h
  obtain ⟨s, t, x, y, r, q, rs, rfl, _, h1, h2, rfl, rfl, k⟩ := ck_bin_ok h hm
  exact ck_pure rfl trivial (k _ (ck_top_ok _)) hw
theorem ck_s_idiv : ck_S ro sp fb G own .idiv := by
  intro tgt pc A pc' A' H L st w a b h hm hw
  simp only [ck_nx] at h
  split at h
  · rename_i t0 g0 r0 e0
    cases hb : decide (0 < t0.2.1) with
    | false => rw [hb] at h; cases h
    | true =>
      rw [hb] at h
      rw [decide_eq_true_eq] at hb
      obtain ⟨s, t, x, y, r, q, rs, rfl, e1, h1, h2, rfl, rfl, k⟩ := ck_bin_ok h hm
      rw [e0] at e1
      cases e1
      have hy : ¬ y = 0 := by
        intro z
        have := h2.2.1
        rw [z, show (0 : Int32).toInt = 0 from by decide] at this
        omega
      exact ck_pure rfl ⟨hy, trivial⟩ (k _ (ck_div_ok h1 h2 hb)) hw
  · cases h
theorem ck_s_irem : ck_S ro sp fb G own .irem := by
  intro tgt pc A pc' A' H L st w a b h hm hw
  simp only [ck_nx] at h
  split at h
  · rename_i t0 g0 r0 e0
    cases hb : decide (0 < t0.2.1) with
    | false => rw [hb] at h; cases h
    | true =>
      rw [hb] at h
      rw [decide_eq_true_eq] at hb
      obtain ⟨s, t, x, y, r, q, rs, rfl, e1, h1, h2, rfl, rfl, k⟩ := ck_bin_ok h hm
      rw [e0] at e1
      cases e1
      have hy : ¬ y = 0 := by
        intro z
        have := h2.2.1
        rw [z, show (0 : Int32).toInt = 0 from by decide] at this
        omega
      exact ck_pure rfl ⟨hy, trivial⟩ (k _ (ck_rem_ok h1 h2 hb)) hw
  · cases h
theorem ck_s_ineg : ck_S ro sp fb G own .ineg := by
  intro tgt pc A pc' A' H L st w a b h hm hw
  simp only [ck_nx] at h
  split at h
  · rename_i t g r e
    cases hb : Nat.beq t.1 0 with
    | false => rw [hb] at h; cases h
    | true =>
      rw [hb] at h
      cases h
      obtain ⟨v, rs, rfl, h2, _, h4⟩ := ck_one hm e
      obtain ⟨x, rfl, _⟩ := ty_int h2 (Nat.eq_of_beq_eq_true hb)
      exact ck_pure rfl trivial (ck_push_ok (ck_pop_ok hm h4) (ck_neg_ok h2) trivial) hw
  · cases h
theorem ck_s_i2l : ck_S ro sp fb G own .i2l := by
  intro tgt pc A pc' A' H L st w a b h hm hw
  simp only [ck_nx] at h
  split at h
  · rename_i t g r e
    cases hb : Nat.beq t.1 0 with
    | false => rw [hb] at h; cases h
    | true =>
      rw [hb] at h
      cases h
      obtain ⟨v, rs, rfl, h2, _, h4⟩ := ck_one hm e
      obtain ⟨x, rfl, _⟩ := ty_int h2 (Nat.eq_of_beq_eq_true hb)
      exact ck_pure rfl trivial (ck_push_ok (ck_pop_ok hm h4) (ck_i2l_ok h2) trivial) hw
  · cases h
theorem ck_s_l2i : ck_S ro sp fb G own .l2i := by
  intro tgt pc A pc' A' H L st w a b h hm hw
  simp only [ck_nx] at h
  split at h
  · rename_i t g r e
    cases hb : Nat.beq t.1 1 with
    | false => rw [hb] at h; cases h
    | true =>
      rw [hb] at h
      cases h
      obtain ⟨v, rs, rfl, h2, _, h4⟩ := ck_one hm e
      obtain ⟨x, rfl, _⟩ := ty_long h2 (Nat.eq_of_beq_eq_true hb)
      exact ck_pure rfl trivial (ck_push_ok (ck_pop_ok hm h4) (ck_l2i_ok h2) trivial) hw
  · cases h
theorem ck_s_i2b : ck_S ro sp fb G own .i2b := by
  intro tgt pc A pc' A' H L st w a b h hm hw
  simp only [ck_nx] at h
  split at h
  · rename_i t g r e
    cases hb : Nat.beq t.1 0 with
    | false => rw [hb] at h; cases h
    | true =>
      rw [hb] at h
      cases h
      obtain ⟨v, rs, rfl, h2, _, h4⟩ := ck_one hm e
      obtain ⟨x, rfl, _⟩ := ty_int h2 (Nat.eq_of_beq_eq_true hb)
      exact ck_pure rfl trivial (ck_push_ok (ck_pop_ok hm h4) (ck_top_ok _) trivial) hw
  · cases h
theorem ck_s_i2c : ck_S ro sp fb G own .i2c := by
  intro tgt pc A pc' A' H L st w a b h hm hw
  simp only [ck_nx] at h
  split at h
  · rename_i t g r e
    cases hb : Nat.beq t.1 0 with
    | false => rw [hb] at h; cases h
    | true =>
      rw [hb] at h
      cases h
      obtain ⟨v, rs, rfl, h2, _, h4⟩ := ck_one hm e
      obtain ⟨x, rfl, _⟩ := ty_int h2 (Nat.eq_of_beq_eq_true hb)
      exact ck_pure rfl trivial (ck_push_ok (ck_pop_ok hm h4) (ck_top_ok _) trivial) hw
  · cases h
theorem ck_lbin_ok {A A' : ck_A} {pc pc' : Nat} {f : ty_A → ty_A → ty_A} {H : ck_H} {L : ab_L} {st : List Value} {w : ab_W} (h : ck_lbin A pc f = some (pc', A', H)) (hm : ck_ms G A L st w) : ∃ (s t : ty_A) (x y : Int64) (r : List Value) (g : ck_T) (rs : List ck_V), st = .long y :: .long x :: r ∧ A.2.1 = (t, g) :: rs ∧ ty_v G s (.long x) ∧ ty_v G t (.long y) ∧ pc' = pc + 1 ∧ H = (0, 0, 0, 0) ∧ ∀ z : Int64, ty_v G (f s t) (.long z) → ck_ms G A' L (.long z :: r) w := by
  unfold ck_lbin at h
  split at h
  · rename_i t gt s gs r e
    cases hb : (Nat.beq s.1 1 && Nat.beq t.1 1) with
    | false => rw [hb] at h; cases h
    | true =>
      rw [hb] at h
      cases h
      rw [Bool.and_eq_true] at hb
      obtain ⟨v, rs, rfl, h2, _, h4⟩ := ck_one hm e
      obtain ⟨u, rs2, rfl, h5, _, h6⟩ := ck_stk_one h4
      obtain ⟨y, rfl, _⟩ := ty_long h2 (Nat.eq_of_beq_eq_true hb.2)
      obtain ⟨x, rfl, _⟩ := ty_long h5 (Nat.eq_of_beq_eq_true hb.1)
      exact ⟨s, t, x, y, rs2, gt, _, rfl, e, h5, h2, rfl, rfl, fun z hz => ck_push_ok (ck_pop_ok hm h6) hz trivial⟩
  · cases h
theorem ck_s_ladd : ck_S ro sp fb G own .ladd := by
  intro tgt pc A pc' A' H L st w a b h hm hw
  simp only [ck_nx] at h
  obtain ⟨s, t, x, y, r, g, rs, rfl, _, h1, h2, rfl, rfl, k⟩ := ck_lbin_ok h hm
  exact ck_pure rfl trivial (k _ (ck_ladd_ok h1 h2)) hw
theorem ck_s_lsub : ck_S ro sp fb G own .lsub := by
  intro tgt pc A pc' A' H L st w a b h hm hw
  simp only [ck_nx] at h
  obtain ⟨s, t, x, y, r, g, rs, rfl, _, h1, h2, rfl, rfl, k⟩ := ck_lbin_ok h hm
  exact ck_pure rfl trivial (k _ (ck_lsub_ok h1 h2)) hw
theorem ck_s_lmul : ck_S ro sp fb G own .lmul := by
  intro tgt pc A pc' A' H L st w a b h hm hw
  simp only [ck_nx] at h
  obtain ⟨s, t, x, y, r, g, rs, rfl, _, h1, h2, rfl, rfl, k⟩ := ck_lbin_ok h hm
  exact ck_pure rfl trivial (k _ (ck_lmul_ok h1 h2)) hw
theorem ck_s_ldiv : ck_S ro sp fb G own .ldiv := by
  intro tgt pc A pc' A' H L st w a b h hm hw
  simp only [ck_nx] at h
  split at h
  · rename_i t0 g0 r0 e0
    cases hb : decide (0 < t0.2.1) with
    | false => rw [hb] at h; cases h
    | true =>
      rw [hb] at h
      rw [decide_eq_true_eq] at hb
      obtain ⟨s, t, x, y, r, g, rs, rfl, e1, h0, h1, rfl, rfl, k⟩ := ck_lbin_ok h hm
      rw [e0] at e1
      cases e1
      have hy : ¬ y = 0 := by
        intro z
        have := h1.2.1
        rw [z, show (0 : Int64).toInt = 0 from by decide] at this
        omega
      exact ck_pure rfl ⟨hy, trivial⟩ (k _ (ck_ltop_ok _)) hw
  · cases h
theorem ck_s_lrem : ck_S ro sp fb G own .lrem := by
  intro tgt pc A pc' A' H L st w a b h hm hw
  simp only [ck_nx] at h
  split at h
  · rename_i t0 g0 r0 e0
    cases hb : decide (0 < t0.2.1) with
    | false => rw [hb] at h; cases h
    | true =>
      rw [hb] at h
      rw [decide_eq_true_eq] at hb
      obtain ⟨s, t, x, y, r, g, rs, rfl, e1, h0, h1, rfl, rfl, k⟩ := ck_lbin_ok h hm
      rw [e0] at e1
      cases e1
      have hy : ¬ y = 0 := by
        intro z
        have := h1.2.1
        rw [z, show (0 : Int64).toInt = 0 from by decide] at this
        omega
      exact ck_pure rfl ⟨hy, trivial⟩ (k _ (ck_lrem_ok h0 h1 hb)) hw
  · cases h
theorem ck_s_lcmp : ck_S ro sp fb G own .lcmp := by
  intro tgt pc A pc' A' H L st w a b h hm hw
  simp only [ck_nx] at h
  split at h
  · rename_i t gt s gs r e
    cases hb : (Nat.beq s.1 1 && Nat.beq t.1 1) with
    | false => rw [hb] at h; cases h
    | true =>
      rw [hb] at h
      cases h
      rw [Bool.and_eq_true] at hb
      obtain ⟨v, rs, rfl, h2, _, h4⟩ := ck_one hm e
      obtain ⟨u, rs2, rfl, h5, _, h6⟩ := ck_stk_one h4
      obtain ⟨y, rfl, _⟩ := ty_long h2 (Nat.eq_of_beq_eq_true hb.2)
      obtain ⟨x, rfl, _⟩ := ty_long h5 (Nat.eq_of_beq_eq_true hb.1)
      exact ck_pure rfl trivial (ck_push_ok (ck_pop_ok hm h6) (ck_top_ok _) trivial) hw
  · cases h
theorem ck_s_dup : ck_S ro sp fb G own .dup := by
  intro tgt pc A pc' A' H L st w a b h hm hw
  simp only [ck_nx] at h
  split at h
  · rename_i t g r e
    cases hb : (Nat.beq t.1 0 || ck_nn t) with
    | false => rw [hb] at h; cases h
    | true =>
      rw [hb] at h
      cases h
      rw [Bool.or_eq_true] at hb
      obtain ⟨v, rs, rfl, h2, h3, h4⟩ := ck_one hm e
      have hm2 := ck_push_ok (ck_push_ok (ck_pop_ok hm h4) h2 h3) h2 h3
      rcases hb with hb | hb
      · obtain ⟨x, rfl, _⟩ := ty_int h2 (Nat.eq_of_beq_eq_true hb)
        exact ck_pure rfl trivial hm2 hw
      · obtain ⟨x, rfl⟩ := ck_nn_ok h2 hb
        exact ck_pure rfl trivial hm2 hw
  · cases h
theorem ck_s_pop : ck_S ro sp fb G own .pop := by
  intro tgt pc A pc' A' H L st w a b h hm hw
  simp only [ck_nx] at h
  split at h
  · rename_i t g r e
    cases hb : (Nat.beq t.1 0 || ck_nn t) with
    | false => rw [hb] at h; cases h
    | true =>
      rw [hb] at h
      cases h
      rw [Bool.or_eq_true] at hb
      obtain ⟨v, rs, rfl, h2, h3, h4⟩ := ck_one hm e
      rcases hb with hb | hb
      · obtain ⟨x, rfl, _⟩ := ty_int h2 (Nat.eq_of_beq_eq_true hb)
        exact ck_pure rfl trivial (ck_pop_ok hm h4) hw
      · obtain ⟨x, rfl⟩ := ck_nn_ok h2 hb
        exact ck_pure rfl trivial (ck_pop_ok hm h4) hw
  · cases h
theorem ck_s_dup2 : ck_S ro sp fb G own .dup2 := by
  intro tgt pc A pc' A' H L st w a b h hm hw
  simp only [ck_nx] at h
  split at h
  · rename_i t gt s gs r e
    obtain ⟨v, rs, rfl, h2, h3, h4⟩ := ck_one hm e
    obtain ⟨u, rs2, rfl, h5, h7, h6⟩ := ck_stk_one h4
    cases hb : (Nat.beq t.1 0 && ck_nn s) with
    | true =>
      rw [hb] at h
      cases h
      rw [Bool.and_eq_true] at hb
      obtain ⟨y, rfl, _⟩ := ty_int h2 (Nat.eq_of_beq_eq_true hb.1)
      obtain ⟨x, rfl⟩ := ck_nn_ok h5 hb.2
      exact ck_pure rfl trivial (ck_pop_ok hm ⟨⟨h2, h3⟩, ⟨h5, h7⟩, ⟨h2, h3⟩, ⟨h5, h7⟩, h6⟩) hw
    | false =>
      rw [hb] at h
      cases hc : Nat.beq t.1 1 with
      | false => rw [hc] at h; cases h
      | true =>
        rw [hc] at h
        cases h
        obtain ⟨y, rfl, _⟩ := ty_long h2 (Nat.eq_of_beq_eq_true hc)
        exact ck_pure rfl trivial (ck_pop_ok hm ⟨⟨h2, h3⟩, ⟨h2, h3⟩, ⟨h5, h7⟩, h6⟩) hw
  · rename_i t gt r hn e
    obtain ⟨v, rs, rfl, h2, h3, h4⟩ := ck_one hm e
    cases hc : Nat.beq t.1 1 with
    | false => rw [hc] at h; cases h
    | true =>
      rw [hc] at h
      cases h
      obtain ⟨y, rfl, _⟩ := ty_long h2 (Nat.eq_of_beq_eq_true hc)
      exact ck_pure rfl trivial (ck_pop_ok hm ⟨⟨h2, h3⟩, ⟨h2, h3⟩, h4⟩) hw
  · cases h
end CkP
