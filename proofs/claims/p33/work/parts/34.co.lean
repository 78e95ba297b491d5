/-! the checker is sound: the single instructions -/
section CkO
variable {ro : ab_R} {sp : Nat → ty_S} {fb : List (Nat × Nat)} {G : Nat → Nat} {own : Nat}
theorem ck_self (x : Int32) : ty_v G (0, x.toInt, x.toInt) (.int x) := ⟨rfl, Int.le_refl _, Int.le_refl _⟩
theorem ck_selfl (x : Int64) : ty_v G (1, x.toInt, x.toInt) (.long x) := ⟨rfl, Int.le_refl _, Int.le_refl _⟩
theorem ck_s_iconst (n : Int) : ck_S ro sp fb G own (.iconst n) := by
  intro tgt pc A pc' A' H L st w a b h hm hw
  simp only [ck_nx] at h
  cases h
  exact ck_pure rfl trivial (ck_push_ok hm (ck_self _) trivial) hw
theorem ck_s_bipush (n : Int) : ck_S ro sp fb G own (.bipush n) := by
  intro tgt pc A pc' A' H L st w a b h hm hw
  simp only [ck_nx] at h
  cases h
  exact ck_pure rfl trivial (ck_push_ok hm (ck_self _) trivial) hw
theorem ck_s_sipush (n : Int) : ck_S ro sp fb G own (.sipush n) := by
  intro tgt pc A pc' A' H L st w a b h hm hw
  simp only [ck_nx] at h
  cases h
  exact ck_pure rfl trivial (ck_push_ok hm (ck_self _) trivial) hw
theorem ck_s_lconst (n : Fin 2) : ck_S ro sp fb G own (.lconst n) := by
  intro tgt pc A pc' A' H L st w a b h hm hw
  simp only [ck_nx] at h
  cases h
  exact ck_pure rfl trivial (ck_push_ok hm (ck_selfl _) trivial) hw
theorem ck_s_aconst_null : ck_S ro sp fb G own .aconst_null := by
  intro tgt pc A pc' A' H L st w a b h hm hw
  simp only [ck_nx] at h
  cases h
  exact ck_pure rfl trivial (ck_push_ok hm ⟨rfl, rfl⟩ trivial) hw
theorem ck_s_goto (f : Int) : ck_S ro sp fb G own (.goto f) := by
  intro tgt pc A pc' A' H L st w a b h hm hw
  simp only [ck_nx] at h
  cases h
  exact ck_pure rfl trivial hm hw
theorem ck_s_ldc (ix : Nat) : ck_S ro sp fb G own (.ldc ix) := by
  intro tgt pc A pc' A' H L st w a b h hm hw
  simp only [ck_nx] at h
  split at h
  · rename_i v e
    cases h
    exact ck_pure (show ab_nx ro own false (.ldc ix) tgt pc L st w a b = some ([], pc + 2, L, .int v :: st, w, a, b) by simp only [ab_nx, e]) trivial (ck_push_ok hm (ck_self _) trivial) hw
  · rename_i v e
    cases hb : Nat.ble 1000000 v with
    | false => rw [hb] at h; cases h
    | true =>
      rw [hb] at h
      cases h
      exact ck_pure (show ab_nx ro own false (.ldc ix) tgt pc L st w a b = some ([], pc + 2, L, .ref v :: st, w, a, b) by simp only [ab_nx, e]) trivial (ck_push_ok hm (Or.inr ⟨rfl, Nat.le_of_ble_eq_true hb, Int.le_refl _, Int.le_refl _⟩) trivial) hw
  · cases h
theorem ck_s_ldc_w (ix : Nat) : ck_S ro sp fb G own (.ldc_w ix) := by
  intro tgt pc A pc' A' H L st w a b h hm hw
  simp only [ck_nx] at h
  split at h
  · rename_i v e
    cases h
    exact ck_pure (show ab_nx ro own false (.ldc_w ix) tgt pc L st w a b = some ([], pc + 3, L, .int v :: st, w, a, b) by simp only [ab_nx, e]) trivial (ck_push_ok hm (ck_self _) trivial) hw
  · cases h
theorem ck_s_ldc2_w (ix : Nat) : ck_S ro sp fb G own (.ldc2_w ix) := by
  intro tgt pc A pc' A' H L st w a b h hm hw
  simp only [ck_nx] at h
  split at h
  · rename_i v e
    cases h
    exact ck_pure (show ab_nx ro own false (.ldc2_w ix) tgt pc L st w a b = some ([], pc + 3, L, .long v :: st, w, a, b) by simp only [ab_nx, e]) trivial (ck_push_ok hm (ck_selfl _) trivial) hw
  · cases h
theorem ck_ld_of {L : ab_L} {k : Nat} {v : Value} (h : L[k]? = some (some v)) : ab_ld L k = some v := by unfold ab_ld; rw [h]
theorem ck_ld_ok {A A' : ck_A} {k l pc' : Nat} {f : Nat → Bool} {H : ck_H} {L : ab_L} {st : List Value} {w : ab_W} (h : ck_ld A k l f = some (pc', A', H)) (hm : ck_ms G A L st w) : ∃ (t : ty_A) (v : Value), ab_ld L k = some v ∧ ty_v G t v ∧ f t.1 = true ∧ pc' = l ∧ H = (0, 0, 0, 0) ∧ ck_ms G A' L (v :: st) w := by
  unfold ck_ld at h
  split at h
  · rename_i t e
    cases hb : f t.1 with
    | false => rw [hb] at h; cases h
    | true =>
      rw [hb] at h
      cases h
      obtain ⟨v, h1, h2⟩ := hm.1.2 k t e
      exact ⟨t, v, ck_ld_of h1, h2, hb, rfl, rfl, ck_push_ok hm h2 h1⟩
  · cases h
theorem ck_s_iload (k : Nat) : ck_S ro sp fb G own (.iload k) := by
  intro tgt pc A pc' A' H L st w a b h hm hw
  simp only [ck_nx] at h
  obtain ⟨t, v, h1, h2, h3, rfl, rfl, h4⟩ := ck_ld_ok h hm
  obtain ⟨x, rfl, _⟩ := ty_int h2 (Nat.eq_of_beq_eq_true h3)
  exact ck_pure (show ab_nx ro own false (.iload k) tgt pc L st w a b = some ([], pc + 2, L, .int x :: st, w, a, b) by simp only [ab_nx, h1]) trivial h4 hw
theorem ck_s_iload_n (k : Fin 4) : ck_S ro sp fb G own (.iload_n k) := by
  intro tgt pc A pc' A' H L st w a b h hm hw
  simp only [ck_nx] at h
  obtain ⟨t, v, h1, h2, h3, rfl, rfl, h4⟩ := ck_ld_ok h hm
  obtain ⟨x, rfl, _⟩ := ty_int h2 (Nat.eq_of_beq_eq_true h3)
  exact ck_pure (show ab_nx ro own false (.iload_n k) tgt pc L st w a b = some ([], pc + 1, L, .int x :: st, w, a, b) by simp only [ab_nx, h1]) trivial h4 hw
theorem ck_s_lload (k : Nat) : ck_S ro sp fb G own (.lload k) := by
  intro tgt pc A pc' A' H L st w a b h hm hw
  simp only [ck_nx] at h
  obtain ⟨t, v, h1, h2, h3, rfl, rfl, h4⟩ := ck_ld_ok h hm
  obtain ⟨x, rfl, _⟩ := ty_long h2 (Nat.eq_of_beq_eq_true h3)
  exact ck_pure (show ab_nx ro own false (.lload k) tgt pc L st w a b = some ([], pc + 2, L, .long x :: st, w, a, b) by simp only [ab_nx, h1]) trivial h4 hw
theorem ck_s_lload_n (k : Fin 4) : ck_S ro sp fb G own (.lload_n k) := by
  intro tgt pc A pc' A' H L st w a b h hm hw
  simp only [ck_nx] at h
  obtain ⟨t, v, h1, h2, h3, rfl, rfl, h4⟩ := ck_ld_ok h hm
  obtain ⟨x, rfl, _⟩ := ty_long h2 (Nat.eq_of_beq_eq_true h3)
  exact ck_pure (show ab_nx ro own false (.lload_n k) tgt pc L st w a b = some ([], pc + 1, L, .long x :: st, w, a, b) by simp only [ab_nx, h1]) trivial h4 hw
theorem ck_isr_ok {t : ty_A} {v : Value} (h : ty_v G t v) (e : ck_isr t.1 = true) : (∃ k, v = .ref k) ∨ v = .null := by
  unfold ck_isr at e
  rw [Bool.or_eq_true] at e
  rcases e with e | e
  · rcases ty_ref h (Nat.eq_of_beq_eq_true e) with ⟨k, h1, _⟩ | ⟨h1, _⟩
    · exact Or.inl ⟨k, h1⟩
    · exact Or.inr h1
  · exact Or.inl (ty_far h (Nat.eq_of_beq_eq_true e))
theorem ck_s_aload (k : Nat) : ck_S ro sp fb G own (.aload k) := by
  intro tgt pc A pc' A' H L st w a b h hm hw
  simp only [ck_nx] at h
  obtain ⟨t, v, h1, h2, h3, rfl, rfl, h4⟩ := ck_ld_ok h hm
  rcases ck_isr_ok h2 h3 with ⟨x, rfl⟩ | rfl
  · exact ck_pure (show ab_nx ro own false (.aload k) tgt pc L st w a b = some ([], pc + 2, L, .ref x :: st, w, a, b) by simp only [ab_nx, h1]) trivial h4 hw
  · exact ck_pure (show ab_nx ro own false (.aload k) tgt pc L st w a b = some ([], pc + 2, L, .null :: st, w, a, b) by simp only [ab_nx, h1]) trivial h4 hw
theorem ck_s_aload_n (k : Fin 4) : ck_S ro sp fb G own (.aload_n k) := by
  intro tgt pc A pc' A' H L st w a b h hm hw
  simp only [ck_nx] at h
  obtain ⟨t, v, h1, h2, h3, rfl, rfl, h4⟩ := ck_ld_ok h hm
  rcases ck_isr_ok h2 h3 with ⟨x, rfl⟩ | rfl
  · exact ck_pure (show ab_nx ro own false (.aload_n k) tgt pc L st w a b = some ([], pc + 1, L, .ref x :: st, w, a, b) by simp only [ab_nx, h1]) trivial h4 hw
  · exact ck_pure (show ab_nx ro own false (.aload_n k) tgt pc L st w a b = some ([], pc + 1, L, .null :: st, w, a, b) by simp only [ab_nx, h1]) trivial h4 hw
/-! stores into locals -/
theorem ck_li_set {L : ab_L} {k j : Nat} {x : Option Value} (h : j ≠ k) : ck_li (L.set k x) j = ck_li L j := by
  unfold ck_li
  rw [List.getElem?_set, if_neg (fun z => h z.symm)]
theorem ck_li_at {L : ab_L} {k : Nat} {x : Option Value} (h : k < L.length) : ck_li (L.set k x) k = match x with | some (.int y) => y.toInt | _ => 0 := by
  unfold ck_li
  rw [List.getElem?_set, if_pos rfl, if_pos h]
  cases x with
  | none => rfl
  | some v => cases v <;> rfl
theorem ck_li_kill (L : ab_L) (k j : Nat) : ck_li (ab_kill L k) j = ck_li L j := by
  cases k with
  | zero => rfl
  | succ i =>
    unfold ab_kill
    dsimp only
    have key : ∀ v : Value, L[i]? = some (some v) → (∀ x, v ≠ .int x) → ck_li (L.set i none) j = ck_li L j := by
      intro v hv hn
      by_cases z : j = i
      · subst z
        rw [ck_li_at (List.getElem?_eq_some_iff.mp hv).1]
        unfold ck_li
        rw [hv]
        cases v with
        | int x => exact absurd rfl (hn x)
        | _ => rfl
      · exact ck_li_set z
    split
    · rename_i x e
      exact key _ e (fun x z => by cases z)
    · rename_i x e
      exact key _ e (fun x z => by cases z)
    · rfl
theorem ck_st1_ok {A A' : ck_A} {k l pc' : Nat} {f : ty_A → Bool} {H : ck_H} {L : ab_L} {st : List Value} {w : ab_W} (h : ck_st1 A k l f = some (pc', A', H)) (hm : ck_ms G A L st w) : ∃ (t : ty_A) (v : Value) (rs : List Value), st = v :: rs ∧ ty_v G t v ∧ f t = true ∧ k < L.length ∧ pc' = l ∧ ck_ms G A' (ab_st1 L k v) rs w ∧ ck_hok H L (ab_st1 L k v) := by
  unfold ck_st1 at h
  split at h
  · rename_i t g r e
    cases hb : (f t && Nat.blt k A.1.length) with
    | false => rw [hb] at h; cases h
    | true =>
      rw [hb] at h
      cases h
      rw [Bool.and_eq_true] at hb
      obtain ⟨v, rs, rfl, h2, _, h4⟩ := ck_one hm e
      have hk : k < L.length := by
        rw [← hm.1.1]
        exact Nat.le_of_ble_eq_true hb.2
      have hk' : k < (ab_kill L k).length := by rw [ab_kill_len]; exact hk
      refine ⟨t, v, rs, rfl, h2, hb.1, hk, rfl, ck_set_ok (ck_kill_ok (ck_pop_ok hm h4)) (fun a z => by cases z; exact ⟨v, rfl, h2⟩), ?_⟩
      have rest : ∀ j, j ≠ k → ck_li (ab_st1 L k v) j = ck_li L j := fun j hj => by
        unfold ab_st1
        rw [ck_li_set hj, ck_li_kill]
      cases ht : Nat.beq t.1 0 with
      | true =>
        obtain ⟨x, rfl, h5⟩ := ty_int h2 (Nat.eq_of_beq_eq_true ht)
        refine ⟨?_, rest⟩
        have e2 : ck_li (ab_st1 L k (.int x)) k = x.toInt := by
          unfold ab_st1
          rw [ck_li_at hk']
        rw [e2]
        exact h5
      | false =>
        refine ⟨?_, rest⟩
        unfold ab_st1
        rw [ck_li_at hk']
        cases v with
        | int x =>
          have : t.1 = 0 := h2.1
          rw [this] at ht
          cases ht
        | _ => rfl
  · cases h
theorem ck_s_istore (k : Nat) : ck_S ro sp fb G own (.istore k) := by
  intro tgt pc A pc' A' H L st w a b h hm hw
  simp only [ck_nx] at h
  obtain ⟨t, v, rs, rfl, h1, h2, h3, rfl, h4, h5⟩ := ck_st1_ok h hm
  obtain ⟨x, rfl, _⟩ := ty_int h1 (Nat.eq_of_beq_eq_true h2)
  exact ⟨[], _, rs, w, (by simp only [ab_nx]; rw [if_pos h3]), trivial, h4, hw, ty_same_rf w, h5⟩
theorem ck_s_istore_n (k : Fin 4) : ck_S ro sp fb G own (.istore_n k) := by
  intro tgt pc A pc' A' H L st w a b h hm hw
  simp only [ck_nx] at h
  obtain ⟨t, v, rs, rfl, h1, h2, h3, rfl, h4, h5⟩ := ck_st1_ok h hm
  obtain ⟨x, rfl, _⟩ := ty_int h1 (Nat.eq_of_beq_eq_true h2)
  exact ⟨[], _, rs, w, (by simp only [ab_nx]; rw [if_pos h3]), trivial, h4, hw, ty_same_rf w, h5⟩
theorem ck_s_astore (k : Nat) : ck_S ro sp fb G own (.astore k) := by
  intro tgt pc A pc' A' H L st w a b h hm hw
  simp only [ck_nx] at h
  obtain ⟨t, v, rs, rfl, h1, h2, h3, rfl, h4, h5⟩ := ck_st1_ok h hm
  rcases ck_isr_ok h1 h2 with ⟨x, rfl⟩ | rfl
  · exact ⟨[], _, rs, w, (by simp only [ab_nx]; rw [if_pos h3]), trivial, h4, hw, ty_same_rf w, h5⟩
  · exact ⟨[], _, rs, w, (by simp only [ab_nx]; rw [if_pos h3]), trivial, h4, hw, ty_same_rf w, h5⟩
theorem ck_s_astore_n (k : Fin 4) : ck_S ro sp fb G own (.astore_n k) := by
  intro tgt pc A pc' A' H L st w a b h hm hw
  simp only [ck_nx] at h
  obtain ⟨t, v, rs, rfl, h1, h2, h3, rfl, h4, h5⟩ := ck_st1_ok h hm
  rcases ck_isr_ok h1 h2 with ⟨x, rfl⟩ | rfl
  · exact ⟨[], _, rs, w, (by simp only [ab_nx]; rw [if_pos h3]), trivial, h4, hw, ty_same_rf w, h5⟩
  · exact ⟨[], _, rs, w, (by simp only [ab_nx]; rw [if_pos h3]), trivial, h4, hw, ty_same_rf w, h5⟩
theorem ck_st2_ok {A A' : ck_A} {k l pc' : Nat} {H : ck_H} {L : ab_L} {st : List Value} {w : ab_W} (h : ck_st2 A k l = some (pc', A', H)) (hm : ck_ms G A L st w) : ∃ (x : Int64) (rs : List Value), st = .long x :: rs ∧ k + 1 < L.length ∧ pc' = l ∧ ck_ms G A' (ab_st2 L k (.long x)) rs w ∧ ck_hok H L (ab_st2 L k (.long x)) := by
  unfold ck_st2 at h
  split at h
  · rename_i t g r e
    cases hb : (Nat.beq t.1 1 && Nat.blt (k + 1) A.1.length) with
    | false => rw [hb] at h; cases h
    | true =>
      rw [hb] at h
      cases h
      rw [Bool.and_eq_true] at hb
      obtain ⟨v, rs, rfl, h2, _, h4⟩ := ck_one hm e
      obtain ⟨x, rfl, h5⟩ := ty_long h2 (Nat.eq_of_beq_eq_true hb.1)
      have hk : k + 1 < L.length := by
        rw [← hm.1.1]
        exact Nat.le_of_ble_eq_true hb.2
      have l1 : k + 1 < (ab_kill L k).length := by rw [ab_kill_len]; exact hk
      have l2 : k < ((ab_kill L k).set (k + 1) none).length := by rw [List.length_set, ab_kill_len]; omega
      refine ⟨x, rs, rfl, hk, rfl, ck_set_ok (ck_set_ok (ck_kill_ok (ck_pop_ok hm h4)) (fun a z => by cases z)) (fun a z => by cases z; exact ⟨_, rfl, h2⟩), ⟨?_, ?_⟩, fun j n1 n2 => ?_⟩
      · unfold ab_st2
        rw [ck_li_at l2]
      · unfold ab_st2
        rw [ck_li_set (show k + 1 ≠ k by omega), ck_li_at l1]
      · unfold ab_st2
        rw [ck_li_set n1, ck_li_set n2, ck_li_kill]
  · cases h
theorem ck_s_lstore (k : Nat) : ck_S ro sp fb G own (.lstore k) := by
  intro tgt pc A pc' A' H L st w a b h hm hw
  simp only [ck_nx] at h
  obtain ⟨x, rs, rfl, h3, rfl, h4, h5⟩ := ck_st2_ok h hm
  exact ⟨[], _, rs, w, (by simp only [ab_nx]; rw [if_pos h3]), trivial, h4, hw, ty_same_rf w, h5⟩
theorem ck_s_lstore_n (k : Fin 4) : ck_S ro sp fb G own (.lstore_n k) := by
  intro tgt pc A pc' A' H L st w a b h hm hw
  simp only [ck_nx] at h
  obtain ⟨x, rs, rfl, h3, rfl, h4, h5⟩ := ck_st2_ok h hm
  exact ⟨[], _, rs, w, (by simp only [ab_nx]; rw [if_pos h3]), trivial, h4, hw, ty_same_rf w, h5⟩
theorem ck_s_iinc (k : Nat) (n : Int) : ck_S ro sp fb G own (.iinc k n) := by
  intro tgt pc A pc' A' H L st w a b h hm hw
  simp only [ck_nx] at h
  split at h
  · rename_i t e
    cases hb : (Nat.beq t.1 0 && decide (-2147483648 ≤ t.2.1 + n) && decide (t.2.2 + n ≤ 2147483647) && decide (-128 ≤ n) && decide (n ≤ 127)) with
    | false =>
      rw [hb] at h
      cases hz : Nat.beq t.1 0 with
      | false => rw [hz] at h; cases h
      | true =>
        rw [hz] at h
        cases h
        obtain ⟨v, h1, h2⟩ := hm.1.2 k t e
        obtain ⟨x, rfl, h3⟩ := ty_int h2 (Nat.eq_of_beq_eq_true hz)
        have hk : k < L.length := (List.getElem?_eq_some_iff.mp h1).1
        have hk' : k < (ab_kill L k).length := by rw [ab_kill_len]; exact hk
        refine ⟨[], ab_st1 L k (.int (x + Int32.ofInt n)), st, w, ?_, trivial, ck_set_ok (ck_kill_ok hm) (fun a z => by cases z; exact ⟨_, rfl, ck_top_ok _⟩), hw, ty_same_rf w, ?_, fun j hj => ?_⟩
        · simp only [ab_nx, ck_ld_of h1]
          rw [if_pos hk]
        · unfold ab_st1
          rw [ck_li_at hk']
          exact ck_i32 _
        · unfold ab_st1
          rw [ck_li_set hj, ck_li_kill]
    | true =>
      rw [hb] at h
      cases h
      simp only [Bool.and_eq_true, decide_eq_true_eq] at hb
      obtain ⟨⟨⟨⟨b1, b2⟩, b3⟩, b4⟩, b5⟩ := hb
      obtain ⟨v, h1, h2⟩ := hm.1.2 k t e
      obtain ⟨x, rfl, h3⟩ := ty_int h2 (Nat.eq_of_beq_eq_true b1)
      have hk : k < L.length := (List.getElem?_eq_some_iff.mp h1).1
      have hk' : k < (ab_kill L k).length := by rw [ab_kill_len]; exact hk
      have en : (Int32.ofInt n).toInt = n := Int32.toInt_ofInt_of_le (by omega) (by omega)
      have ev : (x + Int32.ofInt n).toInt = x.toInt + n := by
        rw [Int32.toInt_add, en, ck_bmod (by omega) (by omega)]
      refine ⟨[], ab_st1 L k (.int (x + Int32.ofInt n)), st, w, ?_, trivial, ck_set_ok (ck_kill_ok hm) (fun a z => by cases z; exact ⟨_, rfl, rfl, by show t.2.1 + n ≤ (x + Int32.ofInt n).toInt; omega, by show (x + Int32.ofInt n).toInt ≤ t.2.2 + n; omega⟩), hw, ty_same_rf w, ?_, fun j hj => ?_⟩
      · simp only [ab_nx, ck_ld_of h1]
        rw [if_pos hk]
      · unfold ab_st1
        rw [ck_li_at hk']
        dsimp only
        rw [ev]
        have : ck_li L k = x.toInt := by unfold ck_li; rw [h1]
        rw [this]
      · unfold ab_st1
        rw [ck_li_set hj, ck_li_kill]
  · cases h
end CkO
