/-! the checker is sound: the heap -/
section CkQ
variable {ro : ab_R} {sp : Nat → ty_S} {fb : List (Nat × Nat)} {G : Nat → Nat} {own : Nat}
theorem ck_gs {n : Nat} {s : Int} (h : n = s.toNat) (h0 : 0 ≤ s) : (n : Int) = s := by omega
theorem ty_obj {S : ty_S} {c : va_E} (h : ty_c G S c) (e : S.1 = 0) : ∃ (ci : Nat) (fs : List Value), c = .inr (ci, fs) ∧ ci = S.2.1 ∧ fs.length = S.2.2.2.length ∧ ∀ (k : Nat) (q : ty_F), S.2.2.2[k]? = some q → ∃ v, fs[k]? = some v ∧ ty_v G (ty_fa q) v := by
  match c, h with
  | .inr (ci, fs), h => exact ⟨ci, fs, rfl, h.2⟩
  | .inl (t, n, .inl f), h => rcases h with h | h <;> (have := h.1; omega)
  | .inl (t, n, .inr (.inl f)), h => have := h.1; omega
  | .inl (t, n, .inr (.inr (.inl f))), h => exact h.elim
  | .inl (t, n, .inr (.inr (.inr (.inl f)))), h => exact h.elim
  | .inl (t, n, .inr (.inr (.inr (.inr f)))), h => have := h.1; omega
theorem ty_irow {S : ty_S} {c : va_E} (h : ty_c G S c) (e : S.1 = 1) : ∃ f : Nat → Int32, c = .inl (S.2.1, S.2.2.1, .inl f) ∧ ty_rw S.2.2.2 f := by
  match c, h with
  | .inr (ci, fs), h => have := h.1; omega
  | .inl (t, n, .inl f), h =>
    rcases h with ⟨_, h1, h2, h3⟩ | h
    · exact ⟨f, by rw [h1, h2], h3⟩
    · have := h.1; omega
  | .inl (t, n, .inr (.inl f)), h => have := h.1; omega
  | .inl (t, n, .inr (.inr (.inl f))), h => exact h.elim
  | .inl (t, n, .inr (.inr (.inr (.inl f)))), h => exact h.elim
  | .inl (t, n, .inr (.inr (.inr (.inr f)))), h => have := h.1; omega
theorem ty_lrow {S : ty_S} {c : va_E} (h : ty_c G S c) (e : S.1 = 2) : ∃ f : Nat → Int64, c = .inl (2, S.2.2.1, .inr (.inl f)) := by
  match c, h with
  | .inr (ci, fs), h => have := h.1; omega
  | .inl (t, n, .inl f), h => rcases h with h | h <;> (have := h.1; omega)
  | .inl (t, n, .inr (.inl f)), h => exact ⟨f, by rw [h.2.1, h.2.2]⟩
  | .inl (t, n, .inr (.inr (.inl f))), h => exact h.elim
  | .inl (t, n, .inr (.inr (.inr (.inl f)))), h => exact h.elim
  | .inl (t, n, .inr (.inr (.inr (.inr f)))), h => have := h.1; omega
theorem ty_qrow {S : ty_S} {c : va_E} (h : ty_c G S c) (e : S.1 = 3) : ∃ f : Nat → Option Nat, c = .inl (S.2.1, S.2.2.1, .inr (.inr (.inr (.inr f)))) ∧ (∀ i k, f i = some k → G k ≠ 0 ∧ ∀ q ∈ S.2.2.2, ((G k : Nat) : Int) = q.2.2.2.2.1) ∧ ∀ q ∈ S.2.2.2, q.1 = 1 → ∀ i, i < S.2.2.1 → f i ≠ none := by
  match c, h with
  | .inr (ci, fs), h => have := h.1; omega
  | .inl (t, n, .inl f), h => rcases h with h | h <;> (have := h.1; omega)
  | .inl (t, n, .inr (.inl f)), h => have := h.1; omega
  | .inl (t, n, .inr (.inr (.inl f))), h => exact h.elim
  | .inl (t, n, .inr (.inr (.inr (.inl f)))), h => exact h.elim
  | .inl (t, n, .inr (.inr (.inr (.inr f)))), h => exact ⟨f, by rw [h.2.1, h.2.2.1], h.2.2.2.1, by rw [← h.2.2.1]; exact h.2.2.2.2⟩
/-- what a reference of a sort leads to -/
theorem ck_cell {t : ty_A} {v : Value} {w : ab_W} (hv : ty_v G t v) (hw : ty_w sp G w) (e1 : t.1 = 2) (e2 : t.2.2 = 0) : ∃ (o : Nat) (c : va_E), v = .ref o ∧ G o = t.2.1.toNat ∧ w[o]? = some c ∧ ty_c G (sp t.2.1.toNat) c := by
  obtain ⟨o, h1, h2, h3⟩ := ty_refn hv e1 e2
  obtain ⟨c, h4, h5⟩ := ty_w_at hw h2
  rw [h3] at h5
  exact ⟨o, c, h1, h3, h4, h5⟩
theorem ck_in_ok {t : ty_A} {v : Value} {n : Nat} (hv : ty_v G t v) (h : ck_in t n = true) : ∃ x : Int32, v = .int x ∧ vp_in x n ∧ t.2.1 ≤ (x.toNatClampNeg : Int) ∧ (x.toNatClampNeg : Int) ≤ t.2.2 ∧ (x.toNatClampNeg : Int) = x.toInt := by
  unfold ck_in at h
  simp only [Bool.and_eq_true, decide_eq_true_eq] at h
  obtain ⟨x, rfl, h1, h2⟩ := ty_int hv (Nat.eq_of_beq_eq_true h.1.1)
  have e : x.toNatClampNeg = x.toInt.toNat := rfl
  refine ⟨x, rfl, ?_, by omega, by omega, by omega⟩
  intro z
  rcases z with z | z
  · rw [Int32.lt_iff_toInt_lt, show (0 : Int32).toInt = 0 from by decide] at z
    omega
  · omega
theorem ck_seg_ok {sg : List ty_F} {t : ty_A} {f : Nat → Int32} {i : Nat} (h : ty_rw sg f) (h1 : t.2.1 ≤ (i : Int)) (h2 : (i : Int) ≤ t.2.2) : ty_v G (ck_seg sg t) (.int (f i)) := by
  unfold ck_seg
  split
  · rename_i q e
    have hm := List.mem_of_find?_eq_some e
    have hp := List.find?_some e
    simp only [Bool.and_eq_true, decide_eq_true_eq] at hp
    obtain ⟨⟨⟨p1, p2⟩, p3⟩, p4⟩ := hp
    have := h q hm i (by omega) (by omega) (by rw [Nat.eq_of_beq_eq_true p3, Nat.eq_of_beq_eq_true p4, Nat.mod_one])
    exact ⟨rfl, this.1, this.2⟩
  · exact ck_top_ok _
theorem ck_ssg_ok {sg : List ty_F} {t s : ty_A} {f : Nat → Int32} {i : Nat} {x : Int32} (h : ty_rw sg f) (hs : ck_ssg sg t s = true) (h1 : t.2.1 ≤ (i : Int)) (h2 : (i : Int) ≤ t.2.2) (hx : s.2.1 ≤ x.toInt ∧ x.toInt ≤ s.2.2) : ty_rw sg (upd f i x) := by
  intro q hq j j1 j2 j3
  by_cases e : j = i
  · subst e
    have hp := List.all_eq_true.mp hs q hq
    simp only [Bool.or_eq_true, Bool.and_eq_true, decide_eq_true_eq] at hp
    have e2 : upd f j x j = x := by simp [upd]
    rw [e2]
    rcases hp with (hp | hp) | hp
    · omega
    · omega
    · omega
  · have e2 : upd f i x j = f j := by simp [upd, e]
    rw [e2]
    exact h q hq j j1 j2 j3
theorem ck_ok_not {s : Int} {f : Nat} (h : ck_ok fb s f = true) {n : Nat} (hn : (n : Int) = s) : ∀ q, (n, q) ∈ fb → q ≠ f ∧ q ≠ 999 := by
  intro q hq
  unfold ck_ok at h
  rw [Bool.not_eq_true', List.any_eq_false] at h
  have := h _ hq
  simp only [Bool.and_eq_true, Bool.or_eq_true, decide_eq_true_eq, not_and, not_or] at this
  obtain ⟨t1, t2⟩ := this hn
  exact ⟨fun z => t1 (by rw [z]; exact Nat.beq_refl _), fun z => t2 (by rw [z]; exact Nat.beq_refl _)⟩
/-- a row of a sort that may be written is written -/
theorem ck_same_row {w : ab_W} {o : Nat} {x y : Nat × vp_A} {s : Int} (hw : w[o]? = some (.inl x)) (h : ck_ok fb s 999 = true) (hs : (G o : Int) = s) : ty_same G fb w (w.set o (.inl y)) := by
  refine ⟨List.length_set .., fun k q hq => ?_⟩
  by_cases e : o = k
  · subst e
    refine ⟨fun z => absurd z (ck_ok_not h hs q hq).2, ?_⟩
    rw [List.getElem?_set, if_pos rfl, if_pos (List.getElem?_eq_some_iff.mp hw).1, hw]
    rfl
  · rw [List.getElem?_set, if_neg e]
    exact ⟨fun _ => rfl, rfl⟩
theorem ck_same_put {w : ab_W} {o ci f : Nat} {fs : List Value} {x : Value} {s : Int} (hw : w[o]? = some (.inr (ci, fs))) (h : ck_ok fb s f = true) (hs : (G o : Int) = s) : ty_same G fb w (w.set o (.inr (ci, fs.set f x))) := by
  refine ⟨List.length_set .., fun k q hq => ?_⟩
  by_cases e : o = k
  · subst e
    have hn := ck_ok_not h hs q hq
    refine ⟨fun z => absurd z hn.2, ?_⟩
    rw [List.getElem?_set, if_pos rfl, if_pos (List.getElem?_eq_some_iff.mp hw).1, hw]
    show (fs.set f x)[q]? = fs[q]?
    rw [List.getElem?_set, if_neg (fun z => hn.1 z.symm)]
  · rw [List.getElem?_set, if_neg e]
    exact ⟨fun _ => rfl, rfl⟩
theorem ck_s_getfield (ix : Nat) : ck_S ro sp fb G own (.getfield ix) := by
  intro tgt pc A pc' A' H L st w a b h hm hw
  simp only [ck_nx] at h
  split at h
  · rename_i ci f t g r e1 e2
    split at h
    · rename_i cj n fl e3
      split at h
      · rename_i q e4
        cases hb : (Nat.beq t.1 2 && decide (t.2.2 = 0) && decide (0 ≤ t.2.1) && Nat.beq ci cj) with
        | false => rw [hb] at h; cases h
        | true =>
          rw [hb] at h
          cases h
          simp only [Bool.and_eq_true, decide_eq_true_eq] at hb
          obtain ⟨⟨⟨b1, b2⟩, b3⟩, b4⟩ := hb
          obtain ⟨v, rs, rfl, h2, h3, h4⟩ := ck_one hm e2
          obtain ⟨o, c, rfl, h5, h6, h7⟩ := ck_cell h2 hw (Nat.eq_of_beq_eq_true b1) b2
          rw [e3] at h7
          obtain ⟨ck, fs, rfl, h8, h9, h10⟩ := ty_obj h7 rfl
          obtain ⟨u, h11, h12⟩ := h10 f q e4
          have h8 : ck = cj := h8
          subst h8
          have hn : ab_nx ro own false (.getfield ix) tgt pc L (.ref o :: rs) w a b = some ([], pc + 3, L, u :: rs, w, a, b) := by
            simp only [ab_nx, e1, h6, b4, cond_true, h11]
          cases hg : Nat.beq g.1 1 with
          | false => exact ck_pure hn trivial (ck_push_ok (ck_pop_ok hm h4) h12 trivial) hw
          | true =>
            have hg1 := Nat.eq_of_beq_eq_true hg
            have hL : L[g.2.1]? = some (some (.ref o)) := by
              unfold ck_tag at h3
              dsimp only at h3
              rw [hg1] at h3
              exact h3
            exact ck_pure hn trivial (ck_push_ok (ck_pop_ok hm h4) (ck_fct_ok hm hL h6 h11 h12) ⟨o, ck, fs, hL, h6, h11⟩) hw
      · cases h
    · cases h
  · cases h
theorem ck_fits_ok {ty : FieldType} {t : ty_A} {v : Value} (h : ck_fits ty t = true) (hv : ty_v G t v) : ∃ ps, ab_fit ty v = some ps ∧ ab_all ps := by
  unfold ck_fits at h
  split at h
  · obtain ⟨x, rfl, _⟩ := ty_int hv (Nat.eq_of_beq_eq_true h)
    exact ⟨[], rfl, trivial⟩
  · obtain ⟨x, rfl, _⟩ := ty_long hv (Nat.eq_of_beq_eq_true h)
    exact ⟨[], rfl, trivial⟩
  · simp only [Bool.and_eq_true, decide_eq_true_eq] at h
    obtain ⟨x, rfl, h1, h2⟩ := ty_int hv (Nat.eq_of_beq_eq_true h.1.1)
    refine ⟨[x = 0 ∨ x = 1], rfl, ?_, trivial⟩
    rw [← Int32.toInt_inj, ← Int32.toInt_inj, show (0 : Int32).toInt = 0 from by decide, show (1 : Int32).toInt = 1 from by decide]
    omega
  · rcases ck_isr_ok hv h with ⟨x, rfl⟩ | rfl
    · exact ⟨[], rfl, trivial⟩
    · exact ⟨[], rfl, trivial⟩
  · rcases ck_isr_ok hv h with ⟨x, rfl⟩ | rfl
    · exact ⟨[], rfl, trivial⟩
    · exact ⟨[], rfl, trivial⟩
  · cases h
theorem ck_s_putfield (ix : Nat) : ck_S ro sp fb G own (.putfield ix) := by
  intro tgt pc A pc' A' H L st w a b h hm hw
  simp only [ck_nx] at h
  split at h
  · rename_i ci f s gs t g r e1 e2
    split at h
    · rename_i cj n fl e3
      split at h
      · rename_i q e4
        cases hb : (Nat.beq t.1 2 && decide (t.2.2 = 0) && decide (0 ≤ t.2.1) && Nat.beq ci cj && !ab_fin ci f && ck_fits (ab_ty ci f) s && ty_le s (ty_fa q) && ck_ok fb t.2.1 f) with
        | false => rw [hb] at h; cases h
        | true =>
          rw [hb] at h
          cases h
          simp only [Bool.and_eq_true, decide_eq_true_eq] at hb
          obtain ⟨⟨⟨⟨⟨⟨⟨b1, b2⟩, b3⟩, b4⟩, b5⟩, b6⟩, b7⟩, b8⟩ := hb
          obtain ⟨v, rs, rfl, h2, h3, h4⟩ := ck_one hm e2
          obtain ⟨u, rs2, rfl, h5, h13, h6⟩ := ck_stk_one h4
          obtain ⟨o, c, rfl, h7, h8, h9⟩ := ck_cell h5 hw (Nat.eq_of_beq_eq_true b1) b2
          rw [e3] at h9
          obtain ⟨ck, fs, rfl, h10, h11, h12⟩ := ty_obj h9 rfl
          have h10 : ck = cj := h10
          subst h10
          have hf : f < fs.length := by
            have := (List.getElem?_eq_some_iff.mp e4).1
            have h11 : fs.length = fl.length := h11
            omega
          obtain ⟨ps, p1, p2⟩ := ck_fits_ok b6 h2
          have hs : (G o : Int) = t.2.1 := ck_gs h7 b3
          refine ⟨ps, L, rs2, w.set o (.inr (ck, fs.set f v)), ?_, p2, ck_put_ok hm h6 h8 h2 h13 hf, ty_w_set hw ?_, ck_same_put h8 b8 hs, fun _ => rfl⟩
          · have hlt : Nat.blt f fs.length = true := Nat.ble_eq_true_of_le hf
            simp only [ab_nx, e1, h8, b4, b5, hlt, Bool.true_or, Bool.and_self, cond_true, p1]
          · rw [h7, e3]
            refine ⟨rfl, rfl, by rw [List.length_set]; exact h11, fun k q' hk => ?_⟩
            by_cases e : f = k
            · subst e
              have hk : fl[f]? = some q' := hk
              rw [e4] at hk
              cases hk
              exact ⟨v, by rw [List.getElem?_set, if_pos rfl, if_pos hf], ty_le_ok b7 h2⟩
            · obtain ⟨v', k1, k2⟩ := h12 k q' hk
              exact ⟨v', by rw [List.getElem?_set, if_neg e]; exact k1, k2⟩
      · cases h
    · cases h
  · cases h
theorem ck_s_iaload : ck_S ro sp fb G own .iaload := by
  intro tgt pc A pc' A' H L st w a b h hm hw
  simp only [ck_nx] at h
  split at h
  · rename_i x gx t gt r e
    split at h
    · rename_i n sg e3
      cases hb : (Nat.beq t.1 2 && decide (t.2.2 = 0) && decide (0 ≤ t.2.1) && ck_in x n) with
      | false => rw [hb] at h; cases h
      | true =>
        rw [hb] at h
        cases h
        simp only [Bool.and_eq_true, decide_eq_true_eq] at hb
        obtain ⟨⟨⟨b1, b2⟩, b3⟩, b4⟩ := hb
        obtain ⟨v, rs, rfl, h2, h3, h4⟩ := ck_one hm e
        obtain ⟨u, rs2, rfl, h5, h13, h6⟩ := ck_stk_one h4
        obtain ⟨i, rfl, i1, i2, i3, i4⟩ := ck_in_ok h2 b4
        obtain ⟨o, c, rfl, h7, h8, h9⟩ := ck_cell h5 hw (Nat.eq_of_beq_eq_true b1) b2
        rw [e3] at h9
        obtain ⟨f, rfl, hf⟩ := ty_irow h9 rfl
        have h8 : w[o]? = some (.inl (0, n, .inl f)) := h8
        exact ck_pure (show ab_nx ro own false .iaload tgt pc L (.int i :: .ref o :: rs2) w a b = some ([vp_in i n], pc + 1, L, .int (f i.toNatClampNeg) :: rs2, w, a, b) by simp only [ab_nx, h8]) ⟨i1, trivial⟩ (ck_push_ok (ck_pop_ok hm h6) (ck_seg_ok hf i2 i3) trivial) hw
    · cases h
  · cases h
theorem ck_s_baload : ck_S ro sp fb G own .baload := by
  intro tgt pc A pc' A' H L st w a b h hm hw
  simp only [ck_nx] at h
  split at h
  · rename_i x gx t gt r e
    split at h
    · rename_i k n sg e3
      cases hb : (Nat.beq t.1 2 && decide (t.2.2 = 0) && decide (0 ≤ t.2.1) && (Nat.beq k 1 || Nat.beq k 3) && ck_in x n) with
      | false => rw [hb] at h; cases h
      | true =>
        rw [hb] at h
        cases h
        simp only [Bool.and_eq_true, Bool.or_eq_true, decide_eq_true_eq] at hb
        obtain ⟨⟨⟨⟨b1, b2⟩, b3⟩, b5⟩, b4⟩ := hb
        obtain ⟨v, rs, rfl, h2, h3, h4⟩ := ck_one hm e
        obtain ⟨u, rs2, rfl, h5, h13, h6⟩ := ck_stk_one h4
        obtain ⟨i, rfl, i1, i2, i3, i4⟩ := ck_in_ok h2 b4
        obtain ⟨o, c, rfl, h7, h8, h9⟩ := ck_cell h5 hw (Nat.eq_of_beq_eq_true b1) b2
        rw [e3] at h9
        obtain ⟨f, rfl, hf⟩ := ty_irow h9 rfl
        have h8 : w[o]? = some (.inl (k, n, .inl f)) := h8
        rcases b5 with b5 | b5
        · have := Nat.eq_of_beq_eq_true b5
          subst this
          exact ck_pure (show ab_nx ro own false .baload tgt pc L (.int i :: .ref o :: rs2) w a b = some ([vp_in i n], pc + 1, L, .int (f i.toNatClampNeg) :: rs2, w, a, b) by simp only [ab_nx, h8]) ⟨i1, trivial⟩ (ck_push_ok (ck_pop_ok hm h6) (ck_seg_ok hf i2 i3) trivial) hw
        · have := Nat.eq_of_beq_eq_true b5
          subst this
          exact ck_pure (show ab_nx ro own false .baload tgt pc L (.int i :: .ref o :: rs2) w a b = some ([vp_in i n], pc + 1, L, .int (f i.toNatClampNeg) :: rs2, w, a, b) by simp only [ab_nx, h8]) ⟨i1, trivial⟩ (ck_push_ok (ck_pop_ok hm h6) (ck_seg_ok hf i2 i3) trivial) hw
    · cases h
  · cases h
theorem ck_s_laload : ck_S ro sp fb G own .laload := by
  intro tgt pc A pc' A' H L st w a b h hm hw
  simp only [ck_nx] at h
  split at h
  · rename_i x gx t gt r e
    split at h
    · rename_i k n sg e3
      cases hb : (Nat.beq t.1 2 && decide (t.2.2 = 0) && decide (0 ≤ t.2.1) && ck_in x n) with
      | false => rw [hb] at h; cases h
      | true =>
        rw [hb] at h
        cases h
        simp only [Bool.and_eq_true, decide_eq_true_eq] at hb
        obtain ⟨⟨⟨b1, b2⟩, b3⟩, b4⟩ := hb
        obtain ⟨v, rs, rfl, h2, h3, h4⟩ := ck_one hm e
        obtain ⟨u, rs2, rfl, h5, h13, h6⟩ := ck_stk_one h4
        obtain ⟨i, rfl, i1, i2, i3, i4⟩ := ck_in_ok h2 b4
        obtain ⟨o, c, rfl, h7, h8, h9⟩ := ck_cell h5 hw (Nat.eq_of_beq_eq_true b1) b2
        rw [e3] at h9
        obtain ⟨f, rfl⟩ := ty_lrow h9 rfl
        have h8 : w[o]? = some (.inl (2, n, .inr (.inl f))) := h8
        exact ck_pure (show ab_nx ro own false .laload tgt pc L (.int i :: .ref o :: rs2) w a b = some ([vp_in i n], pc + 1, L, .long (f i.toNatClampNeg) :: rs2, w, a, b) by simp only [ab_nx, h8]) ⟨i1, trivial⟩ (ck_push_ok (ck_pop_ok hm h6) (ck_ltop_ok _) trivial) hw
    · cases h
  · cases h
theorem ck_s_aaload : ck_S ro sp fb G own .aaload := by
  intro tgt pc A pc' A' H L st w a b h hm hw
  simp only [ck_nx] at h
  split at h
  · rename_i x gx t gt r e
    split at h
    · rename_i k n q e3
      cases hb : (Nat.beq t.1 2 && decide (t.2.2 = 0) && decide (0 ≤ t.2.1) && (Nat.beq k 4 || Nat.beq k 5) && ck_in x n) with
      | false => rw [hb] at h; cases h
      | true =>
        rw [hb] at h
        cases h
        simp only [Bool.and_eq_true, Bool.or_eq_true, decide_eq_true_eq] at hb
        obtain ⟨⟨⟨⟨b1, b2⟩, b3⟩, b5⟩, b4⟩ := hb
        obtain ⟨v, rs, rfl, h2, h3, h4⟩ := ck_one hm e
        obtain ⟨u, rs2, rfl, h5, h13, h6⟩ := ck_stk_one h4
        obtain ⟨i, rfl, i1, i2, i3, i4⟩ := ck_in_ok h2 b4
        obtain ⟨o, c, rfl, h7, h8, h9⟩ := ck_cell h5 hw (Nat.eq_of_beq_eq_true b1) b2
        rw [e3] at h9
        obtain ⟨f, rfl, hf, hfn⟩ := ty_qrow h9 rfl
        have h8 : w[o]? = some (.inl (k, n, .inr (.inr (.inr (.inr f))))) := h8
        have hv : ty_v G (2, q.2.2.2.2.1, cond (Nat.beq q.1 1) 0 1) (va_rf (f i.toNatClampNeg)) := by
          cases hfi : f i.toNatClampNeg with
          | none =>
            refine ⟨rfl, ?_⟩
            cases hq1 : Nat.beq q.1 1 with
            | false => rfl
            | true => exact absurd hfi (hfn q List.mem_cons_self (Nat.eq_of_beq_eq_true hq1) _ (Nat.not_le.mp (fun z => i1 (Or.inr z))))
          | some z => exact Or.inl ⟨rfl, (hf _ _ hfi).1, (hf _ _ hfi).2 q List.mem_cons_self⟩
        rcases b5 with b5 | b5
        · have := Nat.eq_of_beq_eq_true b5
          subst this
          exact ck_pure (show ab_nx ro own false .aaload tgt pc L (.int i :: .ref o :: rs2) w a b = some ([vp_in i n], pc + 1, L, va_rf (f i.toNatClampNeg) :: rs2, w, a, b) by simp only [ab_nx, h8]) ⟨i1, trivial⟩ (ck_push_ok (ck_pop_ok hm h6) hv trivial) hw
        · have := Nat.eq_of_beq_eq_true b5
          subst this
          exact ck_pure (show ab_nx ro own false .aaload tgt pc L (.int i :: .ref o :: rs2) w a b = some ([vp_in i n], pc + 1, L, va_rf (f i.toNatClampNeg) :: rs2, w, a, b) by simp only [ab_nx, h8]) ⟨i1, trivial⟩ (ck_push_ok (ck_pop_ok hm h6) hv trivial) hw
    · cases h
  · cases h
theorem ck_s_iastore : ck_S ro sp fb G own .iastore := by
  intro tgt pc A pc' A' H L st w a b h hm hw
  simp only [ck_nx] at h
  split at h
  · rename_i s gs x gx t gt r e
    split at h
    · rename_i n sg e3
      cases hb : (Nat.beq s.1 0 && Nat.beq t.1 2 && decide (t.2.2 = 0) && decide (0 ≤ t.2.1) && ck_in x n && ck_ssg sg x s && ck_ok fb t.2.1 999) with
      | false => rw [hb] at h; cases h
      | true =>
        rw [hb] at h
        cases h
        simp only [Bool.and_eq_true, decide_eq_true_eq] at hb
        obtain ⟨⟨⟨⟨⟨⟨b0, b1⟩, b2⟩, b3⟩, b4⟩, b5⟩, b6⟩ := hb
        obtain ⟨v, rs, rfl, h2, h3, h4⟩ := ck_one hm e
        obtain ⟨u, rs2, rfl, h5, h13, h6⟩ := ck_stk_one h4
        obtain ⟨y, rs3, rfl, h14, h15, h16⟩ := ck_stk_one h6
        obtain ⟨z, rfl, z1⟩ := ty_int h2 (Nat.eq_of_beq_eq_true b0)
        obtain ⟨i, rfl, i1, i2, i3, i4⟩ := ck_in_ok h5 b4
        obtain ⟨o, c, rfl, h7, h8, h9⟩ := ck_cell h14 hw (Nat.eq_of_beq_eq_true b1) b2
        rw [e3] at h9
        obtain ⟨f, rfl, hf⟩ := ty_irow h9 rfl
        have h8 : w[o]? = some (.inl (0, n, .inl f)) := h8
        refine ⟨[vp_in i n], L, rs3, w.set o (.inl (0, n, .inl (upd f i.toNatClampNeg z))), by simp only [ab_nx, h8], ⟨i1, trivial⟩, ck_row_ok hm h16 h8, ty_w_set hw ?_, ck_same_row h8 b6 (ck_gs h7 b3), fun _ => rfl⟩
        rw [h7, e3]
        exact Or.inl ⟨rfl, rfl, rfl, ck_ssg_ok hf b5 i2 i3 z1⟩
    · cases h
  · cases h
theorem ck_s_bastore : ck_S ro sp fb G own .bastore := by
  intro tgt pc A pc' A' H L st w a b h hm hw
  simp only [ck_nx] at h
  split at h
  · rename_i s gs x gx t gt r e
    split at h
    · rename_i k n e3
      cases hb : (Nat.beq s.1 0 && Nat.beq t.1 2 && decide (t.2.2 = 0) && decide (0 ≤ t.2.1) && (Nat.beq k 1 || Nat.beq k 3) && ck_in x n && ck_ok fb t.2.1 999) with
      | false => rw [hb] at h; cases h
      | true =>
        rw [hb] at h
        cases h
        simp only [Bool.and_eq_true, Bool.or_eq_true, decide_eq_true_eq] at hb
        obtain ⟨⟨⟨⟨⟨⟨b0, b1⟩, b2⟩, b3⟩, b5⟩, b4⟩, b6⟩ := hb
        obtain ⟨v, rs, rfl, h2, h3, h4⟩ := ck_one hm e
        obtain ⟨u, rs2, rfl, h5, h13, h6⟩ := ck_stk_one h4
        obtain ⟨y, rs3, rfl, h14, h15, h16⟩ := ck_stk_one h6
        obtain ⟨z, rfl, z1⟩ := ty_int h2 (Nat.eq_of_beq_eq_true b0)
        obtain ⟨i, rfl, i1, i2, i3, i4⟩ := ck_in_ok h5 b4
        obtain ⟨o, c, rfl, h7, h8, h9⟩ := ck_cell h14 hw (Nat.eq_of_beq_eq_true b1) b2
        rw [e3] at h9
        obtain ⟨f, rfl, hf⟩ := ty_irow h9 rfl
        have h8 : w[o]? = some (.inl (k, n, .inl f)) := h8
        rcases b5 with b5 | b5
        · have := Nat.eq_of_beq_eq_true b5
          subst this
          refine ⟨[vp_in i n], L, rs3, w.set o (.inl (1, n, .inl (upd f i.toNatClampNeg (vp_nar .byte z)))), by simp only [ab_nx, h8], ⟨i1, trivial⟩, ck_row_ok hm h16 h8, ty_w_set hw ?_, ck_same_row h8 b6 (ck_gs h7 b3), fun _ => rfl⟩
          rw [h7, e3]
          exact Or.inl ⟨rfl, rfl, rfl, fun q hq => by cases hq⟩
        · have := Nat.eq_of_beq_eq_true b5
          subst this
          refine ⟨[vp_in i n], L, rs3, w.set o (.inl (3, n, .inl (upd f i.toNatClampNeg (vp_nar .boolean z)))), by simp only [ab_nx, h8], ⟨i1, trivial⟩, ck_row_ok hm h16 h8, ty_w_set hw ?_, ck_same_row h8 b6 (ck_gs h7 b3), fun _ => rfl⟩
          rw [h7, e3]
          exact Or.inl ⟨rfl, rfl, rfl, fun q hq => by cases hq⟩
    · cases h
  · cases h
theorem ck_s_lastore : ck_S ro sp fb G own .lastore := by
  intro tgt pc A pc' A' H L st w a b h hm hw
  simp only [ck_nx] at h
  split at h
  · rename_i s gs x gx t gt r e
    split at h
    · rename_i k n sg e3
      cases hb : (Nat.beq s.1 1 && Nat.beq t.1 2 && decide (t.2.2 = 0) && decide (0 ≤ t.2.1) && ck_in x n && ck_ok fb t.2.1 999) with
      | false => rw [hb] at h; cases h
      | true =>
        rw [hb] at h
        cases h
        simp only [Bool.and_eq_true, decide_eq_true_eq] at hb
        obtain ⟨⟨⟨⟨⟨b0, b1⟩, b2⟩, b3⟩, b4⟩, b6⟩ := hb
        obtain ⟨v, rs, rfl, h2, h3, h4⟩ := ck_one hm e
        obtain ⟨u, rs2, rfl, h5, h13, h6⟩ := ck_stk_one h4
        obtain ⟨y, rs3, rfl, h14, h15, h16⟩ := ck_stk_one h6
        obtain ⟨z, rfl, z1⟩ := ty_long h2 (Nat.eq_of_beq_eq_true b0)
        obtain ⟨i, rfl, i1, i2, i3, i4⟩ := ck_in_ok h5 b4
        obtain ⟨o, c, rfl, h7, h8, h9⟩ := ck_cell h14 hw (Nat.eq_of_beq_eq_true b1) b2
        rw [e3] at h9
        obtain ⟨f, rfl⟩ := ty_lrow h9 rfl
        have h8 : w[o]? = some (.inl (2, n, .inr (.inl f))) := h8
        refine ⟨[vp_in i n], L, rs3, w.set o (.inl (2, n, .inr (.inl (vp_updL f i.toNatClampNeg z)))), by simp only [ab_nx, h8], ⟨i1, trivial⟩, ck_row_ok hm h16 h8, ty_w_set hw ?_, ck_same_row h8 b6 (ck_gs h7 b3), fun _ => rfl⟩
        rw [h7, e3]
        exact ⟨rfl, rfl, rfl⟩
    · cases h
  · cases h
theorem ck_s_arraylength : ck_S ro sp fb G own .arraylength := by
  intro tgt pc A pc' A' H L st w a b h hm hw
  simp only [ck_nx] at h
  split at h
  · rename_i t g r e
    obtain ⟨⟨gg, k, n, sg⟩, e3⟩ : ∃ x, sp t.2.1.toNat = x := ⟨_, rfl⟩
    rw [e3] at h
    dsimp only at h
    cases hb : (Nat.beq t.1 2 && decide (t.2.2 = 0) && decide (0 ≤ t.2.1) && (Nat.beq gg 1 || Nat.beq gg 2 || Nat.beq gg 3) && (Nat.beq gg 2 || Nat.blt k 6) && Nat.blt n 2147483648) with
    | false => rw [hb] at h; cases h
    | true =>
      rw [hb] at h
      cases h
      simp only [Bool.and_eq_true, Bool.or_eq_true, decide_eq_true_eq] at hb
      obtain ⟨⟨⟨⟨⟨b1, b2⟩, b3⟩, b4⟩, b5⟩, b6⟩ := hb
      obtain ⟨v, rs, rfl, h2, h3, h4⟩ := ck_one hm e
      obtain ⟨o, c, rfl, h7, h8, h9⟩ := ck_cell h2 hw (Nat.eq_of_beq_eq_true b1) b2
      rw [e3] at h9
      have hn : n < 2 ^ 31 := Nat.le_of_ble_eq_true b6
      have ev : (Int32.ofNat n).toInt = (n : Int) := Int32.toInt_ofNat_of_lt hn
      have hv : ty_v G (0, (n : Int), (n : Int)) (.int (Int32.ofNat n)) := ⟨rfl, by rw [ev]; exact Int.le_refl _, by rw [ev]; exact Int.le_refl _⟩
      have fin : ∀ (k' : Nat) (x : _), k' < 6 → w[o]? = some (.inl (k', n, x)) → ∃ (ps : List Prop) (L' : ab_L) (st' : List Value) (w' : ab_W), ab_nx ro own false .arraylength tgt pc L (.ref o :: rs) w a b = some (ps, pc + 1, L', st', w', a, b) ∧ ab_all ps ∧ ck_ms G (ck_push (ck_stl A r) (0, (n : Int), (n : Int)) (0, 0, 0)) L' st' w' ∧ ty_w sp G w' ∧ ty_same G fb w w' ∧ ck_hok (0, 0, 0, 0) L L' := by
        intro k' x hk hc
        have hlt : Nat.blt k' 6 = true := Nat.ble_eq_true_of_le hk
        exact ck_pure (show ab_nx ro own false .arraylength tgt pc L (.ref o :: rs) w a b = some ([], pc + 1, L, .int (Int32.ofNat n) :: rs, w, a, b) by simp only [ab_nx, hc, hlt, cond_true]) trivial (ck_push_ok (ck_pop_ok hm h4) hv trivial) hw
      rcases b4 with (b4 | b4) | b4
      · have := Nat.eq_of_beq_eq_true b4
        subst this
        obtain ⟨f, rfl, _⟩ := ty_irow h9 rfl
        exact fin k _ (Nat.le_of_ble_eq_true (b5.resolve_left (by decide))) h8
      · have := Nat.eq_of_beq_eq_true b4
        subst this
        obtain ⟨f, rfl⟩ := ty_lrow h9 rfl
        exact fin 2 _ (by decide) h8
      · have := Nat.eq_of_beq_eq_true b4
        subst this
        obtain ⟨f, rfl, _, _⟩ := ty_qrow h9 rfl
        exact fin k _ (Nat.le_of_ble_eq_true (b5.resolve_left (by decide))) h8
  · cases h
end CkQ
