/-! the checker is sound: steps without a branch -/
def ty_fd (q : Nat) (c : va_E) : Option Value := match c with
  | .inr (_, fs) => fs[q]?
  | _ => none
/-- two worlds that are the same in what is named -/
def ty_same (G : Nat → Nat) (fz : List (Nat × Nat)) (w w' : ab_W) : Prop := w'.length = w.length ∧ ∀ (k q : Nat), (G k, q) ∈ fz → (q = 999 → w'[k]? = w[k]?) ∧ (w'[k]?).bind (ty_fd q) = (w[k]?).bind (ty_fd q)
theorem ty_same_rf {G : Nat → Nat} {fz : List (Nat × Nat)} (w : ab_W) : ty_same G fz w w := ⟨rfl, fun _ _ _ => ⟨fun _ => rfl, rfl⟩⟩
theorem ty_same_tr {G : Nat → Nat} {fz : List (Nat × Nat)} {w w' w'' : ab_W} (h1 : ty_same G fz w w') (h2 : ty_same G fz w' w'') : ty_same G fz w w'' := ⟨h2.1.trans h1.1, fun k q hq => ⟨fun e => ((h2.2 k q hq).1 e).trans ((h1.2 k q hq).1 e), (h2.2 k q hq).2.trans (h1.2 k q hq).2⟩⟩
theorem ty_same_sub {G : Nat → Nat} {fz fy : List (Nat × Nat)} {w w' : ab_W} (h : ty_same G fz w w') (hs : ∀ q ∈ fy, q ∈ fz) : ty_same G fy w w' := ⟨h.1, fun k q hq => h.2 k q (hs _ hq)⟩
def ck_hok (H : ck_H) (L L' : ab_L) : Prop := match H with
  | (0, _, _, _) => ∀ k, ck_li L' k = ck_li L k
  | (1, K, n, _) => ck_li L' K = ck_li L K + n ∧ ∀ k, k ≠ K → ck_li L' k = ck_li L k
  | (2, K, lo, hi) => (lo ≤ ck_li L' K ∧ ck_li L' K ≤ hi) ∧ ∀ k, k ≠ K → ck_li L' k = ck_li L k
  | (3, K, _, _) => ck_li L' K = 0 ∧ ∀ k, k ≠ K → ck_li L' k = ck_li L k
  | (_, K, _, _) => (ck_li L' K = 0 ∧ ck_li L' (K + 1) = 0) ∧ ∀ k, k ≠ K → k ≠ K + 1 → ck_li L' k = ck_li L k
def ck_S (ro : ab_R) (sp : Nat → ty_S) (fb : List (Nat × Nat)) (G : Nat → Nat) (own : Nat) (i : Instr) : Prop := ∀ (tgt pc : Nat) (A : ck_A) (pc' : Nat) (A' : ck_A) (H : ck_H) (L : ab_L) (st : List Value) (w : ab_W) (a b : Nat), ck_nx sp fb own i tgt pc A = some (pc', A', H) → ck_ms G A L st w → ty_w sp G w → ∃ (ps : List Prop) (L' : ab_L) (st' : List Value) (w' : ab_W), ab_nx ro own false i tgt pc L st w a b = some (ps, pc', L', st', w', a, b) ∧ ab_all ps ∧ ck_ms G A' L' st' w' ∧ ty_w sp G w' ∧ ty_same G fb w w' ∧ ck_hok H L L'
theorem ck_i32 (x : Int32) : -2147483648 ≤ x.toInt ∧ x.toInt ≤ 2147483647 := by
  have h1 := Int32.le_toInt x
  have h2 := Int32.toInt_lt x
  omega
theorem ck_i64 (x : Int64) : -9223372036854775808 ≤ x.toInt ∧ x.toInt ≤ 9223372036854775807 := by
  have h1 := Int64.le_toInt x
  have h2 := Int64.toInt_lt x
  omega
section CkN
variable {ro : ab_R} {sp : Nat → ty_S} {fb : List (Nat × Nat)} {G : Nat → Nat} {own : Nat}
theorem ck_top_ok (x : Int32) : ty_v G ck_top (.int x) := ⟨rfl, (ck_i32 x).1, (ck_i32 x).2⟩
theorem ck_ltop_ok (x : Int64) : ty_v G ck_ltop (.long x) := ⟨rfl, (ck_i64 x).1, (ck_i64 x).2⟩
theorem ck_pure {i : Instr} {tgt pc pc' a b : Nat} {A' : ck_A} {L : ab_L} {st st' : List Value} {w : ab_W} {ps : List Prop} (e : ab_nx ro own false i tgt pc L st w a b = some (ps, pc', L, st', w, a, b)) (hp : ab_all ps) (hm : ck_ms G A' L st' w) (hw : ty_w sp G w) : ∃ (ps : List Prop) (L' : ab_L) (st' : List Value) (w' : ab_W), ab_nx ro own false i tgt pc L st w a b = some (ps, pc', L', st', w', a, b) ∧ ab_all ps ∧ ck_ms G A' L' st' w' ∧ ty_w sp G w' ∧ ty_same G fb w w' ∧ ck_hok (0, 0, 0, 0) L L' := ⟨ps, L, st', w, e, hp, hm, hw, ty_same_rf w, fun _ => rfl⟩
theorem ck_one {A : ck_A} {L : ab_L} {st : List Value} {w : ab_W} {q : ck_V} {r : List ck_V} (hm : ck_ms G A L st w) (hs : A.2.1 = q :: r) : ∃ v rs, st = v :: rs ∧ ty_v G q.1 v ∧ ck_tag L w q.2 v ∧ ck_stk G L w r rs := by
  have h := hm.2.1
  rw [hs] at h
  cases st with
  | nil => exact h.elim
  | cons v rs => exact ⟨v, rs, rfl, h.1.1, h.1.2, h.2⟩
theorem ck_stk_one {L : ab_L} {st : List Value} {w : ab_W} {q : ck_V} {r : List ck_V} (h : ck_stk G L w (q :: r) st) : ∃ v rs, st = v :: rs ∧ ty_v G q.1 v ∧ ck_tag L w q.2 v ∧ ck_stk G L w r rs := by
  cases st with
  | nil => exact h.elim
  | cons v rs => exact ⟨v, rs, rfl, h.1.1, h.1.2, h.2⟩
theorem ty_int {t : ty_A} {v : Value} (h : ty_v G t v) (e : t.1 = 0) : ∃ x, v = .int x ∧ t.2.1 ≤ x.toInt ∧ x.toInt ≤ t.2.2 := by
  cases v with
  | int x => exact ⟨x, rfl, h.2⟩
  | long x => have := h.1; omega
  | ref k => rcases h with h | h <;> (have := h.1; omega)
  | null => have := h.1; omega
  | _ => exact h.elim
theorem ty_long {t : ty_A} {v : Value} (h : ty_v G t v) (e : t.1 = 1) : ∃ x, v = .long x ∧ t.2.1 ≤ x.toInt ∧ x.toInt ≤ t.2.2 := by
  cases v with
  | int x => have := h.1; omega
  | long x => exact ⟨x, rfl, h.2⟩
  | ref k => rcases h with h | h <;> (have := h.1; omega)
  | null => have := h.1; omega
  | _ => exact h.elim
theorem ty_ref {t : ty_A} {v : Value} (h : ty_v G t v) (e : t.1 = 2) : (∃ k, v = .ref k ∧ G k ≠ 0 ∧ (G k : Int) = t.2.1) ∨ (v = .null ∧ t.2.2 = 1) := by
  cases v with
  | int x => have := h.1; omega
  | long x => have := h.1; omega
  | ref k =>
    rcases h with h | h
    · exact Or.inl ⟨k, rfl, h.2⟩
    · have := h.1; omega
  | null => exact Or.inr ⟨rfl, h.2⟩
  | _ => exact h.elim
theorem ty_refn {t : ty_A} {v : Value} (h : ty_v G t v) (e : t.1 = 2) (e2 : t.2.2 = 0) : ∃ k, v = .ref k ∧ G k ≠ 0 ∧ G k = t.2.1.toNat := by
  rcases ty_ref h e with ⟨k, h1, h2, h3⟩ | ⟨_, h2⟩
  · exact ⟨k, h1, h2, by omega⟩
  · omega
theorem ty_far {t : ty_A} {v : Value} (h : ty_v G t v) (e : t.1 = 3) : ∃ k, v = .ref k := by
  cases v with
  | int x => have := h.1; omega
  | long x => have := h.1; omega
  | ref k => exact ⟨k, rfl⟩
  | null => have := h.1; omega
  | _ => exact h.elim
theorem ck_nn_ok {t : ty_A} {v : Value} (h : ty_v G t v) (e : ck_nn t = true) : ∃ k, v = .ref k := by
  unfold ck_nn at e
  rw [Bool.or_eq_true] at e
  rcases e with e | e
  · exact ty_far h (Nat.eq_of_beq_eq_true e)
  · rw [Bool.and_eq_true, decide_eq_true_eq] at e
    obtain ⟨k, h1, _⟩ := ty_refn h (Nat.eq_of_beq_eq_true e.1) e.2
    exact ⟨k, h1⟩
theorem ck_sum_ok {L : ab_L} {w : ab_W} : ∀ {s : List ck_V} {st : List Value}, ck_stk G L w s st → ab_sum st = ck_sum s
  | [], [], _ => rfl
  | q :: s, v :: vs, h => by
    have ih := ck_sum_ok h.2
    unfold ab_sum ck_sum at ih ⊢
    rw [List.map_cons, List.map_cons, List.sum_cons, List.sum_cons, ih]
    congr 1
    have h1 := h.1.1
    cases v with
    | int x =>
      have : q.1.1 = 0 := h1.1
      rw [this]
      rfl
    | long x =>
      have : q.1.1 = 1 := h1.1
      rw [this]
      rfl
    | ref k =>
      rcases h1 with h1 | h1
      · rw [h1.1]; rfl
      · rw [h1.1]; rfl
    | null =>
      have : q.1.1 = 2 := h1.1
      rw [this]
      rfl
    | _ => exact h1.elim
  | [], _ :: _, h => h.elim
  | _ :: _, [], h => h.elim
/-! long numbers -/
theorem ck_lfit_ok {lo hi : Int} {x : Int64} (h : -9223372036854775808 ≤ lo → hi ≤ 9223372036854775807 → lo ≤ x.toInt ∧ x.toInt ≤ hi) : ty_v G (ck_lfit lo hi) (.long x) := by
  unfold ck_lfit
  split
  · rename_i e
    exact ⟨rfl, (h e.1 e.2).1, (h e.1 e.2).2⟩
  · exact ck_ltop_ok x
theorem ck_lbmod {z : Int} (h1 : -9223372036854775808 ≤ z) (h2 : z ≤ 9223372036854775807) : z.bmod (2 ^ 64) = z := by
  unfold Int.bmod
  dsimp only
  split <;> omega
theorem ck_ladd_ok {s t : ty_A} {x y : Int64} (hx : ty_v G s (.long x)) (hy : ty_v G t (.long y)) : ty_v G (ck_ladd s t) (.long (x + y)) := by
  refine ck_lfit_ok fun h1 h2 => ?_
  have a1 := hx.2
  have a2 := hy.2
  rw [Int64.toInt_add, ck_lbmod (by omega) (by omega)]
  omega
theorem ck_lsub_ok {s t : ty_A} {x y : Int64} (hx : ty_v G s (.long x)) (hy : ty_v G t (.long y)) : ty_v G (ck_lsub s t) (.long (x - y)) := by
  refine ck_lfit_ok fun h1 h2 => ?_
  have a1 := hx.2
  have a2 := hy.2
  rw [Int64.toInt_sub, ck_lbmod (by omega) (by omega)]
  omega
theorem ck_lmul_ok {s t : ty_A} {x y : Int64} (hx : ty_v G s (.long x)) (hy : ty_v G t (.long y)) : ty_v G (ck_lmul s t) (.long (x * y)) := by
  unfold ck_lmul
  have a1 := hx.2
  have a2 := hy.2
  split
  · rename_i e
    have e3 : y.toInt = t.2.1 := by omega
    have m1 : s.2.1 * t.2.1 ≤ x.toInt * t.2.1 := Int.mul_le_mul_of_nonneg_right a1.1 e.2
    have m2 : x.toInt * t.2.1 ≤ s.2.2 * t.2.1 := Int.mul_le_mul_of_nonneg_right a1.2 e.2
    refine ck_lfit_ok fun h1 h2 => ?_
    rw [Int64.toInt_mul, e3, ck_lbmod (by omega) (by omega)]
    omega
  · split
    · rename_i e
      have e3 : x.toInt = s.2.1 := by omega
      have m1 : t.2.1 * s.2.1 ≤ y.toInt * s.2.1 := Int.mul_le_mul_of_nonneg_right a2.1 e.2
      have m2 : y.toInt * s.2.1 ≤ t.2.2 * s.2.1 := Int.mul_le_mul_of_nonneg_right a2.2 e.2
      refine ck_lfit_ok fun h1 h2 => ?_
      rw [Int64.toInt_mul, e3, Int.mul_comm s.2.1 y.toInt, ck_lbmod (by omega) (by omega)]
      omega
    · exact ck_ltop_ok _
theorem ck_ldiv_val {x y : Int64} (h0 : 0 ≤ x.toInt) (h1 : 0 < y.toInt) : (x / y).toInt = x.toInt / y.toInt := by
  have b := ck_i64 x
  have q0 : 0 ≤ x.toInt / y.toInt := Int.ediv_nonneg h0 (by omega)
  have q1 : x.toInt / y.toInt ≤ x.toInt := Int.ediv_le_self _ h0
  rw [Int64.toInt_div, Int.tdiv_eq_ediv_of_nonneg h0, ck_lbmod (by omega) (by omega)]
theorem ck_lrem_ok {s t : ty_A} {x y : Int64} (hx : ty_v G s (.long x)) (hy : ty_v G t (.long y)) (hp : 0 < t.2.1) : ty_v G (ck_lrem s t) (.long (x - x / y * y)) := by
  unfold ck_lrem
  have a1 := hx.2
  have a2 := hy.2
  split
  · rename_i e
    have h0 : 0 ≤ x.toInt := by omega
    have h1 : 0 < y.toInt := by omega
    have b := ck_i64 x
    have m := Int.emod_add_mul_ediv x.toInt y.toInt
    have n0 := Int.emod_nonneg x.toInt (show y.toInt ≠ 0 by omega)
    have n1 := Int.emod_lt_of_pos x.toInt h1
    have q0 : 0 ≤ x.toInt / y.toInt := Int.ediv_nonneg h0 (by omega)
    have p0 : 0 ≤ y.toInt * (x.toInt / y.toInt) := Int.mul_nonneg (by omega) q0
    have e1 : (x / y * y).toInt = y.toInt * (x.toInt / y.toInt) := by
      rw [Int64.toInt_mul, ck_ldiv_val h0 h1, Int.mul_comm (x.toInt / y.toInt) y.toInt, ck_lbmod (by omega) (by omega)]
    have e2 : (x - x / y * y).toInt = x.toInt % y.toInt := by
      rw [Int64.toInt_sub, e1, ck_lbmod (by omega) (by omega)]
      omega
    refine ⟨rfl, ?_, ?_⟩
    · show 0 ≤ (x - x / y * y).toInt
      omega
    · show (x - x / y * y).toInt ≤ t.2.2 - 1
      omega
  · exact ck_ltop_ok _
/-! numbers -/
theorem ck_fit_ok {lo hi : Int} {x : Int32} (h : -2147483648 ≤ lo → hi ≤ 2147483647 → lo ≤ x.toInt ∧ x.toInt ≤ hi) : ty_v G (ck_fit lo hi) (.int x) := by
  unfold ck_fit
  split
  · rename_i e
    exact ⟨rfl, (h e.1 e.2).1, (h e.1 e.2).2⟩
  · exact ck_top_ok x
theorem ck_bmod {z : Int} (h1 : -2147483648 ≤ z) (h2 : z ≤ 2147483647) : z.bmod (2 ^ 32) = z := by
  unfold Int.bmod
  dsimp only
  split <;> omega
theorem ck_add_ok {s t : ty_A} {x y : Int32} (hx : ty_v G s (.int x)) (hy : ty_v G t (.int y)) : ty_v G (ck_add s t) (.int (x + y)) := by
  refine ck_fit_ok fun h1 h2 => ?_
  have a1 := hx.2
  have a2 := hy.2
  rw [Int32.toInt_add, ck_bmod (by omega) (by omega)]
  omega
theorem ck_sub_ok {s t : ty_A} {x y : Int32} (hx : ty_v G s (.int x)) (hy : ty_v G t (.int y)) : ty_v G (ck_sub s t) (.int (x - y)) := by
  refine ck_fit_ok fun h1 h2 => ?_
  have a1 := hx.2
  have a2 := hy.2
  rw [Int32.toInt_sub, ck_bmod (by omega) (by omega)]
  omega
theorem ck_mul_ok {s t : ty_A} {x y : Int32} (hx : ty_v G s (.int x)) (hy : ty_v G t (.int y)) : ty_v G (ck_mul s t) (.int (x * y)) := by
  unfold ck_mul
  have a1 := hx.2
  have a2 := hy.2
  split
  · rename_i e
    have e3 : y.toInt = t.2.1 := by omega
    have m1 : s.2.1 * t.2.1 ≤ x.toInt * t.2.1 := Int.mul_le_mul_of_nonneg_right a1.1 e.2
    have m2 : x.toInt * t.2.1 ≤ s.2.2 * t.2.1 := Int.mul_le_mul_of_nonneg_right a1.2 e.2
    refine ck_fit_ok fun h1 h2 => ?_
    rw [Int32.toInt_mul, e3, ck_bmod (by omega) (by omega)]
    omega
  · split
    · rename_i e
      have e3 : x.toInt = s.2.1 := by omega
      have m1 : t.2.1 * s.2.1 ≤ y.toInt * s.2.1 := Int.mul_le_mul_of_nonneg_right a2.1 e.2
      have m2 : y.toInt * s.2.1 ≤ t.2.2 * s.2.1 := Int.mul_le_mul_of_nonneg_right a2.2 e.2
      refine ck_fit_ok fun h1 h2 => ?_
      rw [Int32.toInt_mul, e3, Int.mul_comm s.2.1 y.toInt, ck_bmod (by omega) (by omega)]
      omega
    · exact ck_top_ok _
theorem ck_neg_ok {s : ty_A} {x : Int32} (hx : ty_v G s (.int x)) : ty_v G (ck_fit (-s.2.2) (-s.2.1)) (.int (-x)) := by
  refine ck_fit_ok fun h1 h2 => ?_
  have a1 := hx.2
  rw [Int32.toInt_neg, ck_bmod (by omega) (by omega)]
  omega
theorem ck_l2i_ok {s : ty_A} {x : Int64} (hx : ty_v G s (.long x)) : ty_v G (ck_l2i s) (.int x.toInt32) := by
  unfold ck_l2i
  have a1 := hx.2
  split
  · rename_i e
    refine ⟨rfl, ?_, ?_⟩
    · show s.2.1 ≤ x.toInt32.toInt
      rw [Int64.toInt_toInt32, ck_bmod (by omega) (by omega)]
      exact a1.1
    · show x.toInt32.toInt ≤ s.2.2
      rw [Int64.toInt_toInt32, ck_bmod (by omega) (by omega)]
      exact a1.2
  · exact ck_top_ok _
theorem ck_i2l_ok {s : ty_A} {x : Int32} (hx : ty_v G s (.int x)) : ty_v G (1, s.2.1, s.2.2) (.long x.toInt64) := by
  have a1 := hx.2
  refine ⟨rfl, ?_, ?_⟩
  · show s.2.1 ≤ x.toInt64.toInt
    rw [Int32.toInt_toInt64]
    exact a1.1
  · show x.toInt64.toInt ≤ s.2.2
    rw [Int32.toInt_toInt64]
    exact a1.2
theorem ck_div_val {x y : Int32} (h0 : 0 ≤ x.toInt) (h1 : 0 < y.toInt) : (x / y).toInt = x.toInt / y.toInt := by
  have b := ck_i32 x
  have q0 : 0 ≤ x.toInt / y.toInt := Int.ediv_nonneg h0 (by omega)
  have q1 : x.toInt / y.toInt ≤ x.toInt := Int.ediv_le_self _ h0
  rw [Int32.toInt_div, Int.tdiv_eq_ediv_of_nonneg h0, ck_bmod (by omega) (by omega)]
theorem ck_div_ok {s t : ty_A} {x y : Int32} (hx : ty_v G s (.int x)) (hy : ty_v G t (.int y)) (hp : 0 < t.2.1) : ty_v G (ck_div s t) (.int (x / y)) := by
  unfold ck_div
  have a1 := hx.2
  have a2 := hy.2
  split
  · rename_i e
    have e3 : y.toInt = t.2.1 := by omega
    have q0 : 0 ≤ x.toInt / t.2.1 := Int.ediv_nonneg (by omega) (by omega)
    have q1 : x.toInt / t.2.1 ≤ s.2.2 / t.2.1 := Int.ediv_le_ediv hp a1.2
    refine ⟨rfl, ?_, ?_⟩
    · show 0 ≤ (x / y).toInt
      rw [ck_div_val (by omega) (by omega), e3]
      exact q0
    · show (x / y).toInt ≤ s.2.2 / t.2.1
      rw [ck_div_val (by omega) (by omega), e3]
      exact q1
  · exact ck_top_ok _
theorem ck_rem_ok {s t : ty_A} {x y : Int32} (hx : ty_v G s (.int x)) (hy : ty_v G t (.int y)) (hp : 0 < t.2.1) : ty_v G (ck_rem s t) (.int (x - x / y * y)) := by
  unfold ck_rem
  have a1 := hx.2
  have a2 := hy.2
  split
  · rename_i e
    have h0 : 0 ≤ x.toInt := by omega
    have h1 : 0 < y.toInt := by omega
    have b := ck_i32 x
    have m := Int.emod_add_mul_ediv x.toInt y.toInt
    have n0 := Int.emod_nonneg x.toInt (show y.toInt ≠ 0 by omega)
    have n1 := Int.emod_lt_of_pos x.toInt h1
    have q0 : 0 ≤ x.toInt / y.toInt := Int.ediv_nonneg h0 (by omega)
    have p0 : 0 ≤ y.toInt * (x.toInt / y.toInt) := Int.mul_nonneg (by omega) q0
    have e1 : (x / y * y).toInt = y.toInt * (x.toInt / y.toInt) := by
      rw [Int32.toInt_mul, ck_div_val h0 h1, Int.mul_comm (x.toInt / y.toInt) y.toInt, ck_bmod (by omega) (by omega)]
    have e2 : (x - x / y * y).toInt = x.toInt % y.toInt := by
      rw [Int32.toInt_sub, e1, ck_bmod (by omega) (by omega)]
      omega
    refine ⟨rfl, ?_, ?_⟩
    · show 0 ≤ (x - x / y * y).toInt
      omega
    · show (x - x / y * y).toInt ≤ t.2.2 - 1
      omega
  · exact ck_top_ok _
theorem ck_and_nat (x y z : Int32) (hn : (x &&& y).toBitVec.toNat ≤ z.toBitVec.toNat) (h : 0 ≤ z.toInt) : 0 ≤ (x &&& y).toInt ∧ (x &&& y).toInt ≤ z.toInt := by
  have l0 : (x &&& y).toInt = if 2 * (x &&& y).toBitVec.toNat < 2 ^ 32 then ((x &&& y).toBitVec.toNat : Int) else ((x &&& y).toBitVec.toNat : Int) - (2 ^ 32 : Nat) := rfl
  have l2 : z.toInt = if 2 * z.toBitVec.toNat < 2 ^ 32 then (z.toBitVec.toNat : Int) else (z.toBitVec.toNat : Int) - (2 ^ 32 : Nat) := rfl
  have l3 : z.toBitVec.toNat < 2 ^ 32 := z.toBitVec.isLt
  generalize (x &&& y).toBitVec.toNat = n at l0 hn
  generalize z.toBitVec.toNat = m at l2 l3 hn
  rw [l0]
  split at l2
  · rw [if_pos (by omega)]
    omega
  · omega
theorem ck_and_val (x y : Int32) : (x &&& y).toBitVec.toNat = x.toBitVec.toNat &&& y.toBitVec.toNat := BitVec.toNat_and _ _
theorem ck_and_ok {s t : ty_A} {x y : Int32} (hx : ty_v G s (.int x)) (hy : ty_v G t (.int y)) : ty_v G (ck_and s t) (.int (x &&& y)) := by
  unfold ck_and
  have a1 := hx.2
  have a2 := hy.2
  split
  · rename_i e
    have := ck_and_nat x y y (by rw [ck_and_val]; exact Nat.and_le_right) (by omega)
    exact ⟨rfl, this.1, by show (x &&& y).toInt ≤ t.2.1; omega⟩
  · split
    · rename_i e
      have := ck_and_nat x y x (by rw [ck_and_val]; exact Nat.and_le_left) (by omega)
      exact ⟨rfl, this.1, by show (x &&& y).toInt ≤ s.2.1; omega⟩
    · exact ck_top_ok _
theorem ck_or_val (x y : Int32) : (x ||| y).toBitVec.toNat = x.toBitVec.toNat ||| y.toBitVec.toNat := BitVec.toNat_or _ _
theorem ck_small {z : Int32} (h0 : 0 ≤ z.toInt) (h1 : z.toInt ≤ 1023) : z.toBitVec.toNat < 2 ^ 10 := by
  have l2 : z.toInt = if 2 * z.toBitVec.toNat < 2 ^ 32 then (z.toBitVec.toNat : Int) else (z.toBitVec.toNat : Int) - (2 ^ 32 : Nat) := rfl
  have l3 : z.toBitVec.toNat < 2 ^ 32 := z.toBitVec.isLt
  generalize z.toBitVec.toNat = m at l2 l3 ⊢
  split at l2
  · omega
  · omega
theorem ck_or_ok {s t : ty_A} {x y : Int32} (hx : ty_v G s (.int x)) (hy : ty_v G t (.int y)) : ty_v G (ck_or s t) (.int (x ||| y)) := by
  unfold ck_or
  have a1 := hx.2
  have a2 := hy.2
  split
  · rename_i e
    have b1 := ck_small (z := x) (by omega) (by omega)
    have b2 := ck_small (z := y) (by omega) (by omega)
    have b3 := Nat.or_lt_two_pow b1 b2
    rw [← ck_or_val] at b3
    have l0 : (x ||| y).toInt = if 2 * (x ||| y).toBitVec.toNat < 2 ^ 32 then ((x ||| y).toBitVec.toNat : Int) else ((x ||| y).toBitVec.toNat : Int) - (2 ^ 32 : Nat) := rfl
    generalize (x ||| y).toBitVec.toNat = m at l0 b3
    rw [if_pos (by omega)] at l0
    exact ⟨rfl, by show 0 ≤ (x ||| y).toInt; omega, by show (x ||| y).toInt ≤ 1023; omega⟩
  · exact ck_top_ok _
theorem ck_shl_ok {s t : ty_A} {x y : Int32} (hx : ty_v G s (.int x)) (hy : ty_v G t (.int y)) : ty_v G (ck_shl s t) (.int (x <<< (y &&& 31))) := by
  unfold ck_shl
  have a1 := hx.2
  have a2 := hy.2
  split
  · rename_i e
    have ex : x = 1 := by
      rw [← Int32.toInt_inj, show (1 : Int32).toInt = 1 from by decide]
      omega
    subst ex
    have key : ∀ k : Int32, k.toInt = y.toInt → (0 ≤ ((1 : Int32) <<< (k &&& 31)).toInt ∧ ((1 : Int32) <<< (k &&& 31)).toInt ≤ 512) → ty_v G (0, 0, 512) (.int ((1 : Int32) <<< (y &&& 31))) := by
      intro k hk h
      have hk := Int32.toInt_inj.mp hk
      subst hk
      exact ⟨rfl, h.1, h.2⟩
    have hc : y.toInt = 0 ∨ y.toInt = 1 ∨ y.toInt = 2 ∨ y.toInt = 3 ∨ y.toInt = 4 ∨ y.toInt = 5 ∨ y.toInt = 6 ∨ y.toInt = 7 ∨ y.toInt = 8 ∨ y.toInt = 9 := by omega
    rcases hc with hc | hc | hc | hc | hc | hc | hc | hc | hc | hc
    · exact key 0 (by rw [hc]; decide) (by decide)
    · exact key 1 (by rw [hc]; decide) (by decide)
    · exact key 2 (by rw [hc]; decide) (by decide)
    · exact key 3 (by rw [hc]; decide) (by decide)
    · exact key 4 (by rw [hc]; decide) (by decide)
    · exact key 5 (by rw [hc]; decide) (by decide)
    · exact key 6 (by rw [hc]; decide) (by decide)
    · exact key 7 (by rw [hc]; decide) (by decide)
    · exact key 8 (by rw [hc]; decide) (by decide)
    · exact key 9 (by rw [hc]; decide) (by decide)
  · exact ck_top_ok _
theorem ck_min_ok {s t : ty_A} {x y : Int32} (hx : ty_v G s (.int x)) (hy : ty_v G t (.int y)) : ty_v G (ck_min s t) (.int (if y < x then y else x)) := by
  have a1 := hx.2
  have a2 := hy.2
  refine ⟨rfl, ?_, ?_⟩
  · show min s.2.1 t.2.1 ≤ _
    split <;> omega
  · show _ ≤ min s.2.2 t.2.2
    split
    · rename_i e
      rw [Int32.lt_iff_toInt_lt] at e
      omega
    · rename_i e
      rw [Int32.lt_iff_toInt_lt] at e
      omega
theorem ck_max_ok {s t : ty_A} {x y : Int32} (hx : ty_v G s (.int x)) (hy : ty_v G t (.int y)) : ty_v G (ck_max s t) (.int (if x < y then y else x)) := by
  have a1 := hx.2
  have a2 := hy.2
  refine ⟨rfl, ?_, ?_⟩
  · show max s.2.1 t.2.1 ≤ _
    split
    · rename_i e
      rw [Int32.lt_iff_toInt_lt] at e
      omega
    · rename_i e
      rw [Int32.lt_iff_toInt_lt] at e
      omega
  · show _ ≤ max s.2.2 t.2.2
    split <;> omega
end CkN
