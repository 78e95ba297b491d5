/-! the machine over the integers stands over the abstract machine: a step -/
theorem im_i {x : Int} (h : im_ir x) : (Int32.ofInt x).toInt = x := Int32.toInt_ofInt_of_le (by omega) (by omega)
theorem im_j {x : Int} (h : im_lr x) : (Int64.ofInt x).toInt = x := Int64.toInt_ofInt_of_le (by omega) (by omega)
theorem im_lt {x y : Int} (hx : im_ir x) (hy : im_ir y) : (Int32.ofInt x < Int32.ofInt y) ↔ x < y := by rw [Int32.lt_iff_toInt_lt, im_i hx, im_i hy]
theorem im_le {x y : Int} (hx : im_ir x) (hy : im_ir y) : (Int32.ofInt x ≤ Int32.ofInt y) ↔ x ≤ y := by rw [Int32.le_iff_toInt_le, im_i hx, im_i hy]
theorem im_eq {x y : Int} (hx : im_ir x) (hy : im_ir y) : (Int32.ofInt x = Int32.ofInt y) ↔ x = y := by rw [← Int32.toInt_inj, im_i hx, im_i hy]
theorem im_0 : im_ir 0 := by decide
theorem im_mul32 (a b : Int) : Int32.ofInt (a * b) = Int32.ofInt a * Int32.ofInt b := Int32.toInt_inj.mp (by simp)
theorem im_mul64 (a b : Int) : Int64.ofInt (a * b) = Int64.ofInt a * Int64.ofInt b := Int64.toInt_inj.mp (by simp)
theorem im_div32 {a b : Int} (ha : im_ir a) (hb : im_ir b) : Int32.ofInt (a.tdiv b) = Int32.ofInt a / Int32.ofInt b := Int32.toInt_inj.mp (by rw [Int32.toInt_div, im_i ha, im_i hb, Int32.toInt_ofInt])
theorem im_div64 {a b : Int} (ha : im_lr a) (hb : im_lr b) : Int64.ofInt (a.tdiv b) = Int64.ofInt a / Int64.ofInt b := Int64.toInt_inj.mp (by rw [Int64.toInt_div, im_j ha, im_j hb, Int64.toInt_ofInt])
theorem im_rem32 {a b : Int} (ha : im_ir a) (hb : im_ir b) : Int32.ofInt (a.tmod b) = Int32.ofInt a - Int32.ofInt a / Int32.ofInt b * Int32.ofInt b := by
  rw [← im_div32 ha hb, ← im_mul32, ← Int32.ofInt_sub, Int.mul_comm, Int.tmod_def]
theorem im_rem64 {a b : Int} (ha : im_lr a) (hb : im_lr b) : Int64.ofInt (a.tmod b) = Int64.ofInt a - Int64.ofInt a / Int64.ofInt b * Int64.ofInt b := by
  rw [← im_div64 ha hb, ← im_mul64, ← Int64.ofInt_sub, Int.mul_comm, Int.tmod_def]
theorem im_ix {i : Int} {n : Nat} (h : 0 ≤ i ∧ i < n ∧ i < 2147483648) : vp_in (Int32.ofInt i) n ∧ (Int32.ofInt i).toNatClampNeg = i.toNat := by
  have e : (Int32.ofInt i).toInt = i := im_i (by omega)
  have e2 : (Int32.ofInt i).toNatClampNeg = i.toNat := by
    show (Int32.ofInt i).toInt.toNat = _
    rw [e]
  refine ⟨?_, e2⟩
  unfold vp_in
  rw [Int32.lt_iff_toInt_lt, e, e2]
  have : (0 : Int32).toInt = 0 := by decide
  omega
theorem im_nn {x : Int} (h : 0 ≤ x ∧ x < 2147483648) : ¬ Int32.ofInt x < 0 ∧ (Int32.ofInt x).toNatClampNeg = x.toNat := by
  have e : (Int32.ofInt x).toInt = x := im_i (by omega)
  refine ⟨?_, ?_⟩
  · rw [Int32.lt_iff_toInt_lt, e]
    have : (0 : Int32).toInt = 0 := by decide
    omega
  · show (Int32.ofInt x).toInt.toNat = _
    rw [e]
theorem im_cond {α : Type} {b : Bool} {z y : α} (h : cond b (some z) none = some y) : b = true ∧ z = y := by
  cases b with
  | true => exact ⟨rfl, by injection h⟩
  | false => cases h
theorem im_blt {a b : Nat} (h : Nat.blt a b = true) : a < b := Nat.le_of_ble_eq_true h
section ImS
variable {n : Nat} {T : List im_T}
theorem im_w_get {w : im_W} {o : Nat} {e : im_E} (h : w[o]? = some e) : (im_w n T w)[o]? = some (im_e n e) := by
  unfold im_w
  rw [List.getElem?_append_left (by rw [List.length_map]; exact (List.getElem?_eq_some_iff.mp h).1), List.getElem?_map, h]
  rfl
theorem im_w_set {w : im_W} {o : Nat} {e e' : im_E} (h : w[o]? = some e) : (im_w n T w).set o (im_e n e') = im_w n T (w.set o e') := by
  unfold im_w
  rw [List.set_append_left _ _ (by rw [List.length_map]; exact (List.getElem?_eq_some_iff.mp h).1), List.map_set]
theorem im_ld_ok (L : im_L) (k : Nat) : ab_ld (im_l n L) k = (im_ld L k).map (im_v n) := by
  unfold ab_ld im_ld im_l
  rw [List.getElem?_map]
  cases L[k]? with
  | none => rfl
  | some q => cases q with
    | none => rfl
    | some v => rfl
theorem im_ld_some {L : im_L} {k : Nat} {v : im_V} (h : im_ld L k = some v) : ab_ld (im_l n L) k = some (im_v n v) := by rw [im_ld_ok, h]; rfl
theorem im_kill_ok (L : im_L) (k : Nat) : ab_kill (im_l n L) k = im_l n (im_kill L k) := by
  cases k with
  | zero => rfl
  | succ j =>
    unfold ab_kill im_kill
    dsimp only
    have e : (im_l n L)[j]? = (L[j]?).map (Option.map (im_v n)) := by unfold im_l; rw [List.getElem?_map]
    rw [e]
    cases L[j]? with
    | none => rfl
    | some q => cases q with
      | none => rfl
      | some v => match v with
        | .inl x => rfl
        | .inr (.inl x) => show (im_l n L).set j none = im_l n (L.set j none); unfold im_l; rw [List.map_set]; rfl
        | .inr (.inr (.inl none)) => rfl
        | .inr (.inr (.inl (some x))) => rfl
        | .inr (.inr (.inr x)) => rfl
theorem im_st1_ok (L : im_L) (k : Nat) (v : im_V) : ab_st1 (im_l n L) k (im_v n v) = im_l n (im_st1 L k v) := by
  unfold ab_st1 im_st1
  rw [im_kill_ok]
  unfold im_l
  rw [List.map_set]
  rfl
theorem im_st2_ok (L : im_L) (k : Nat) (v : im_V) : ab_st2 (im_l n L) k (im_v n v) = im_l n (im_st2 L k v) := by
  unfold ab_st2 im_st2
  rw [im_kill_ok]
  unfold im_l
  rw [List.map_set, List.map_set]
  rfl
theorem im_l_len (L : im_L) : (im_l n L).length = L.length := List.length_map _
theorem im_sum_ok : ∀ st : List im_V, ab_sum (im_k n st) = im_sum st
  | [] => rfl
  | .inl _ :: r => by show 1 + ab_sum (im_k n r) = 1 + im_sum r; rw [im_sum_ok r]
  | .inr (.inl _) :: r => by show 2 + ab_sum (im_k n r) = 2 + im_sum r; rw [im_sum_ok r]
  | .inr (.inr (.inl none)) :: r => by show 1 + ab_sum (im_k n r) = 1 + im_sum r; rw [im_sum_ok r]
  | .inr (.inr (.inl (some _))) :: r => by show 1 + ab_sum (im_k n r) = 1 + im_sum r; rw [im_sum_ok r]
  | .inr (.inr (.inr _)) :: r => by show 1 + ab_sum (im_k n r) = 1 + im_sum r; rw [im_sum_ok r]
theorem im_up32 {f : Int → Int} {i x : Int} (h : 0 ≤ i) : upd (fun k : Nat => Int32.ofInt (f (k : Int))) i.toNat (Int32.ofInt x) = fun k : Nat => Int32.ofInt (im_up f i x (k : Int)) := by
  funext k
  unfold upd im_up
  by_cases e : k = i.toNat
  · rw [if_pos e, if_pos (by omega)]
  · rw [if_neg e, if_neg (by omega)]
theorem im_up64 {f : Int → Int} {i x : Int} (h : 0 ≤ i) : vp_updL (fun k : Nat => Int64.ofInt (f (k : Int))) i.toNat (Int64.ofInt x) = fun k : Nat => Int64.ofInt (im_up f i x (k : Int)) := by
  funext k
  unfold vp_updL im_up
  by_cases e : k = i.toNat
  · rw [if_pos e, if_pos (by omega)]
  · rw [if_neg e, if_neg (by omega)]
theorem im_cpy32 {f g : Int → Int} {sp dp m : Int} (h1 : 0 ≤ sp) (h2 : 0 ≤ dp) (h3 : 0 ≤ m) : va_cpy (fun k : Nat => Int32.ofInt (f (k : Int))) (fun k : Nat => Int32.ofInt (g (k : Int))) sp.toNat dp.toNat m.toNat = fun k : Nat => Int32.ofInt (im_cpy f g sp dp m (k : Int)) := by
  funext k
  unfold va_cpy im_cpy
  by_cases e : dp.toNat ≤ k ∧ k < dp.toNat + m.toNat
  · rw [if_pos e, if_pos (by omega)]
    show Int32.ofInt (f ((sp.toNat + (k - dp.toNat) : Nat) : Int)) = _
    rw [show ((sp.toNat + (k - dp.toNat) : Nat) : Int) = sp + ((k : Int) - dp) by omega]
  · rw [if_neg e, if_neg (by omega)]
theorem im_nar8 {x : Int} (h : -128 ≤ x ∧ x < 128) : vp_nar .byte (Int32.ofInt x) = Int32.ofInt x := by
  show (Int32.ofInt x).toInt8.toInt32 = _
  rw [Int32.toInt8_ofInt, Int8.toInt32_ofInt (by have : Int8.minValue.toInt = -128 := by decide
                                                 omega) (by have : Int8.maxValue.toInt = 127 := by decide
                                                            omega)]
theorem im_i2l {x : Int} (h : im_ir x) : (Int32.ofInt x).toInt64 = Int64.ofInt x := Int32.toInt64_ofInt (by
  have : Int32.minValue.toInt = -2147483648 := by decide
  omega) (by
  have : Int32.maxValue.toInt = 2147483647 := by decide
  omega)
theorem im_nar1 {x : Int} (h : x = 0 ∨ x = 1) : vp_nar .boolean (Int32.ofInt x) = Int32.ofInt x := by
  rcases h with rfl | rfl <;> decide
theorem im_b8 (x : Int) : (Int32.ofInt x).toInt8.toInt32 = Int32.ofInt (im_byte x) := by
  apply Int32.toInt_inj.mp
  rw [Int32.toInt8_ofInt, Int8.toInt_toInt32, Int8.toInt_ofInt]
  unfold im_byte
  show x.bmod 256 = _
  have h1 : -128 ≤ x.bmod 256 := Int.le_bmod (by decide)
  have h2 : x.bmod 256 < 128 := Int.bmod_lt (by decide)
  exact (im_i (by omega)).symm
theorem im_cmp_ok {x y : Int} (hx : im_lr x) (hy : im_lr y) : lg_cmp (Int64.ofInt x) (Int64.ofInt y) = Int32.ofInt (im_cmp x y) := by
  unfold lg_cmp im_cmp
  simp only [gt_iff_lt, Int64.lt_iff_toInt_lt, ← Int64.toInt_inj, im_j hx, im_j hy]
  split
  · rfl
  · split <;> rfl
theorem im_cT_ok (o ix : Nat) (v : im_V) (h : ab_lk (im_cT o) ix = some v) : ab_lk (ab_cT o) ix = some (im_v 0 v) := by
  have key : ∀ (l : List (Nat × im_V)), ab_lk (l.map (fun q => (q.1, im_v 0 q.2))) ix = (ab_lk l ix).map (im_v 0) := by
    intro l
    induction l with
    | nil => rfl
    | cons q t ih =>
      obtain ⟨a, b⟩ := q
      show cond (Nat.beq a ix) (some (im_v 0 b)) (ab_lk (t.map _) ix) = (cond (Nat.beq a ix) (some b) (ab_lk t ix)).map (im_v 0)
      cases Nat.beq a ix with
      | true => rfl
      | false => exact ih
  have e : ab_cT o = (im_cT o).map (fun q => (q.1, im_v 0 q.2)) := by
    match o with
    | 0 => rfl
    | 1 => rfl
    | 2 => rfl
    | 3 => rfl
    | 4 => rfl
    | 5 => rfl
    | 6 => rfl
    | 7 => rfl
    | 8 => rfl
    | 9 => rfl
    | z + 10 => rfl
  rw [e, key, h]
  rfl
theorem im_fit_ok {ty : FieldType} {v : im_V} {ps : List Prop} (h : im_fit ty v = some ps) (hp : ab_all ps) : ∃ qs, ab_fit ty (im_v n v) = some qs ∧ ab_all qs := by
  unfold im_fit at h
  split at h
  · exact ⟨[], rfl, trivial⟩
  · exact ⟨[], rfl, trivial⟩
  · cases h
    refine ⟨[_ = 0 ∨ _ = 1], rfl, ?_, trivial⟩
    rcases hp.1 with rfl | rfl
    · exact Or.inl rfl
    · exact Or.inr rfl
  · rename_i x
    match x with
    | .inl none => exact ⟨[], rfl, trivial⟩
    | .inl (some _) => exact ⟨[], rfl, trivial⟩
    | .inr _ => exact ⟨[], rfl, trivial⟩
  · rename_i x
    match x with
    | .inl none => exact ⟨[], rfl, trivial⟩
    | .inl (some _) => exact ⟨[], rfl, trivial⟩
    | .inr _ => exact ⟨[], rfl, trivial⟩
  · cases h
variable {ro : ab_R} {own t pc : Nat} {L : im_L} {st : List im_V} {w : im_W} {ps : List Prop} {y : im_S}
theorem im_o_iconst {k : Int} (h : im_nx own (.iconst k) t pc L st w = some (ps, y)) (hp : ab_all ps) : ∃ qs, ab_nx ro own false (.iconst k) t pc (im_l n L) (im_k n st) (im_w n T w) 0 0 = some (qs, im_s n T y) ∧ ab_all qs := by
  simp only [im_nx] at h
  cases h
  exact ⟨_, rfl, trivial⟩
theorem im_o_bipush {k : Int} (h : im_nx own (.bipush k) t pc L st w = some (ps, y)) (hp : ab_all ps) : ∃ qs, ab_nx ro own false (.bipush k) t pc (im_l n L) (im_k n st) (im_w n T w) 0 0 = some (qs, im_s n T y) ∧ ab_all qs := by
  simp only [im_nx] at h
  obtain ⟨hb, h⟩ := im_cond h
  cases h
  rw [Bool.and_eq_true, decide_eq_true_eq, decide_eq_true_eq] at hb
  refine ⟨[], ?_, trivial⟩
  show some (([] : List Prop), ((pc + 2, im_l n L, Value.int ((Int8.ofInt k).toInt32) :: im_k n st, im_w n T w, 0, 0) : ab_S)) = some ([], (pc + 2, im_l n L, Value.int (Int32.ofInt k) :: im_k n st, im_w n T w, 0, 0))
  rw [Int8.toInt32_ofInt (by have : Int8.minValue.toInt = -128 := by decide
                             omega) (by have : Int8.maxValue.toInt = 127 := by decide
                                        omega)]
theorem im_o_sipush {k : Int} (h : im_nx own (.sipush k) t pc L st w = some (ps, y)) (hp : ab_all ps) : ∃ qs, ab_nx ro own false (.sipush k) t pc (im_l n L) (im_k n st) (im_w n T w) 0 0 = some (qs, im_s n T y) ∧ ab_all qs := by
  simp only [im_nx] at h
  obtain ⟨hb, h⟩ := im_cond h
  cases h
  rw [Bool.and_eq_true, decide_eq_true_eq, decide_eq_true_eq] at hb
  refine ⟨[], ?_, trivial⟩
  show some (([] : List Prop), ((pc + 3, im_l n L, Value.int ((Int16.ofInt k).toInt32) :: im_k n st, im_w n T w, 0, 0) : ab_S)) = some ([], (pc + 3, im_l n L, Value.int (Int32.ofInt k) :: im_k n st, im_w n T w, 0, 0))
  rw [Int16.toInt32_ofInt (by have : Int16.minValue.toInt = -32768 := by decide
                              omega) (by have : Int16.maxValue.toInt = 32767 := by decide
                                         omega)]
theorem im_o_lconst {k : Fin 2} (h : im_nx own (.lconst k) t pc L st w = some (ps, y)) (hp : ab_all ps) : ∃ qs, ab_nx ro own false (.lconst k) t pc (im_l n L) (im_k n st) (im_w n T w) 0 0 = some (qs, im_s n T y) ∧ ab_all qs := by
  simp only [im_nx] at h
  split at h
  · cases h
    exact ⟨_, rfl, trivial⟩
  · cases h
    exact ⟨_, rfl, trivial⟩
theorem im_o_null (h : im_nx own (.aconst_null) t pc L st w = some (ps, y)) (hp : ab_all ps) : ∃ qs, ab_nx ro own false (.aconst_null) t pc (im_l n L) (im_k n st) (im_w n T w) 0 0 = some (qs, im_s n T y) ∧ ab_all qs := by
  simp only [im_nx] at h
  cases h
  exact ⟨_, rfl, trivial⟩
theorem im_o_ldc {ix : Nat} (h : im_nx own (.ldc ix) t pc L st w = some (ps, y)) (hp : ab_all ps) : ∃ qs, ab_nx ro own false (.ldc ix) t pc (im_l n L) (im_k n st) (im_w n T w) 0 0 = some (qs, im_s n T y) ∧ ab_all qs := by
  simp only [im_nx] at h
  split at h
  · rename_i hq
    cases h
    have e := im_cT_ok own _ _ hq
    refine ⟨[], ?_, trivial⟩
    simp only [ab_nx, e, im_v]
    rfl
  · rename_i hq
    cases h
    have e := im_cT_ok own _ _ hq
    refine ⟨[], ?_, trivial⟩
    simp only [ab_nx, e, im_v]
    rfl
  · cases h
theorem im_o_ldc_w {ix : Nat} (h : im_nx own (.ldc_w ix) t pc L st w = some (ps, y)) (hp : ab_all ps) : ∃ qs, ab_nx ro own false (.ldc_w ix) t pc (im_l n L) (im_k n st) (im_w n T w) 0 0 = some (qs, im_s n T y) ∧ ab_all qs := by
  simp only [im_nx] at h
  split at h
  · rename_i hq
    cases h
    have e := im_cT_ok own _ _ hq
    refine ⟨[], ?_, trivial⟩
    simp only [ab_nx, e, im_v]
    rfl
  · cases h
theorem im_o_ldc2_w {ix : Nat} (h : im_nx own (.ldc2_w ix) t pc L st w = some (ps, y)) (hp : ab_all ps) : ∃ qs, ab_nx ro own false (.ldc2_w ix) t pc (im_l n L) (im_k n st) (im_w n T w) 0 0 = some (qs, im_s n T y) ∧ ab_all qs := by
  simp only [im_nx] at h
  split at h
  · rename_i hq
    cases h
    have e := im_cT_ok own _ _ hq
    refine ⟨[], ?_, trivial⟩
    simp only [ab_nx, e, im_v]
    rfl
  · cases h
theorem im_o_iload {k : Nat} (h : im_nx own (.iload k) t pc L st w = some (ps, y)) (hp : ab_all ps) : ∃ qs, ab_nx ro own false (.iload k) t pc (im_l n L) (im_k n st) (im_w n T w) 0 0 = some (qs, im_s n T y) ∧ ab_all qs := by
  simp only [im_nx] at h
  split at h
  · rename_i hq
    cases h
    have e := im_ld_some (n := n) hq
    refine ⟨[], ?_, trivial⟩
    simp only [ab_nx, e, im_v]
    rfl
  · cases h
theorem im_o_iload_n {k : Fin 4} (h : im_nx own (.iload_n k) t pc L st w = some (ps, y)) (hp : ab_all ps) : ∃ qs, ab_nx ro own false (.iload_n k) t pc (im_l n L) (im_k n st) (im_w n T w) 0 0 = some (qs, im_s n T y) ∧ ab_all qs := by
  simp only [im_nx] at h
  split at h
  · rename_i hq
    cases h
    have e := im_ld_some (n := n) hq
    refine ⟨[], ?_, trivial⟩
    simp only [ab_nx, e, im_v]
    rfl
  · cases h
theorem im_o_lload {k : Nat} (h : im_nx own (.lload k) t pc L st w = some (ps, y)) (hp : ab_all ps) : ∃ qs, ab_nx ro own false (.lload k) t pc (im_l n L) (im_k n st) (im_w n T w) 0 0 = some (qs, im_s n T y) ∧ ab_all qs := by
  simp only [im_nx] at h
  split at h
  · rename_i hq
    cases h
    have e := im_ld_some (n := n) hq
    refine ⟨[], ?_, trivial⟩
    simp only [ab_nx, e, im_v]
    rfl
  · cases h
theorem im_o_lload_n {k : Fin 4} (h : im_nx own (.lload_n k) t pc L st w = some (ps, y)) (hp : ab_all ps) : ∃ qs, ab_nx ro own false (.lload_n k) t pc (im_l n L) (im_k n st) (im_w n T w) 0 0 = some (qs, im_s n T y) ∧ ab_all qs := by
  simp only [im_nx] at h
  split at h
  · rename_i hq
    cases h
    have e := im_ld_some (n := n) hq
    refine ⟨[], ?_, trivial⟩
    simp only [ab_nx, e, im_v]
    rfl
  · cases h
theorem im_o_aload {k : Nat} (h : im_nx own (.aload k) t pc L st w = some (ps, y)) (hp : ab_all ps) : ∃ qs, ab_nx ro own false (.aload k) t pc (im_l n L) (im_k n st) (im_w n T w) 0 0 = some (qs, im_s n T y) ∧ ab_all qs := by
  simp only [im_nx] at h
  split at h
  · rename_i x hq
    cases h
    have e := im_ld_some (n := n) hq
    refine ⟨[], ?_, trivial⟩
    match x with
    | .inl none => simp only [ab_nx, e, im_v]; rfl
    | .inl (some q) => simp only [ab_nx, e, im_v]; rfl
    | .inr q => simp only [ab_nx, e, im_v]; rfl
  · cases h
theorem im_o_aload_n {k : Fin 4} (h : im_nx own (.aload_n k) t pc L st w = some (ps, y)) (hp : ab_all ps) : ∃ qs, ab_nx ro own false (.aload_n k) t pc (im_l n L) (im_k n st) (im_w n T w) 0 0 = some (qs, im_s n T y) ∧ ab_all qs := by
  simp only [im_nx] at h
  split at h
  · rename_i x hq
    cases h
    have e := im_ld_some (n := n) hq
    refine ⟨[], ?_, trivial⟩
    match x with
    | .inl none => simp only [ab_nx, e, im_v]; rfl
    | .inl (some q) => simp only [ab_nx, e, im_v]; rfl
    | .inr q => simp only [ab_nx, e, im_v]; rfl
  · cases h
theorem im_o_istore {k : Nat} (h : im_nx own (.istore k) t pc L st w = some (ps, y)) (hp : ab_all ps) : ∃ qs, ab_nx ro own false (.istore k) t pc (im_l n L) (im_k n st) (im_w n T w) 0 0 = some (qs, im_s n T y) ∧ ab_all qs := by
  simp only [im_nx] at h
  split at h
  · rename_i x r
    obtain ⟨hb, h⟩ := im_cond h
    cases h
    have hk := im_blt hb
    rw [← im_l_len (n := n) L] at hk
    refine ⟨[], ?_, trivial⟩
    have e := im_st1_ok (n := n) L k (.inl x)
    show (if _ then some (([] : List Prop), ((pc + 2, ab_st1 (im_l n L) k (im_v n (.inl x)), im_k n r, im_w n T w, 0, 0) : ab_S)) else none) = _
    rw [if_pos hk, e]
    rfl
  · cases h
theorem im_o_istore_n {k : Fin 4} (h : im_nx own (.istore_n k) t pc L st w = some (ps, y)) (hp : ab_all ps) : ∃ qs, ab_nx ro own false (.istore_n k) t pc (im_l n L) (im_k n st) (im_w n T w) 0 0 = some (qs, im_s n T y) ∧ ab_all qs := by
  simp only [im_nx] at h
  split at h
  · rename_i x r
    obtain ⟨hb, h⟩ := im_cond h
    cases h
    have hk := im_blt hb
    rw [← im_l_len (n := n) L] at hk
    refine ⟨[], ?_, trivial⟩
    have e := im_st1_ok (n := n) L (k : Nat) (.inl x)
    show (if _ then some (([] : List Prop), ((pc + 1, ab_st1 (im_l n L) (k : Nat) (im_v n (.inl x)), im_k n r, im_w n T w, 0, 0) : ab_S)) else none) = _
    rw [if_pos hk, e]
    rfl
  · cases h
theorem im_o_lstore {k : Nat} (h : im_nx own (.lstore k) t pc L st w = some (ps, y)) (hp : ab_all ps) : ∃ qs, ab_nx ro own false (.lstore k) t pc (im_l n L) (im_k n st) (im_w n T w) 0 0 = some (qs, im_s n T y) ∧ ab_all qs := by
  simp only [im_nx] at h
  split at h
  · rename_i x r
    obtain ⟨hb, h⟩ := im_cond h
    cases h
    have hk := im_blt hb
    rw [← im_l_len (n := n) L] at hk
    refine ⟨[], ?_, trivial⟩
    have e := im_st2_ok (n := n) L k (.inr (.inl x))
    show (if _ then some (([] : List Prop), ((pc + 2, ab_st2 (im_l n L) k (im_v n (.inr (.inl x))), im_k n r, im_w n T w, 0, 0) : ab_S)) else none) = _
    rw [if_pos hk, e]
    rfl
  · cases h
theorem im_o_lstore_n {k : Fin 4} (h : im_nx own (.lstore_n k) t pc L st w = some (ps, y)) (hp : ab_all ps) : ∃ qs, ab_nx ro own false (.lstore_n k) t pc (im_l n L) (im_k n st) (im_w n T w) 0 0 = some (qs, im_s n T y) ∧ ab_all qs := by
  simp only [im_nx] at h
  split at h
  · rename_i x r
    obtain ⟨hb, h⟩ := im_cond h
    cases h
    have hk := im_blt hb
    rw [← im_l_len (n := n) L] at hk
    refine ⟨[], ?_, trivial⟩
    have e := im_st2_ok (n := n) L (k : Nat) (.inr (.inl x))
    show (if _ then some (([] : List Prop), ((pc + 1, ab_st2 (im_l n L) (k : Nat) (im_v n (.inr (.inl x))), im_k n r, im_w n T w, 0, 0) : ab_S)) else none) = _
    rw [if_pos hk, e]
    rfl
  · cases h
theorem im_o_astore {k : Nat} (h : im_nx own (.astore k) t pc L st w = some (ps, y)) (hp : ab_all ps) : ∃ qs, ab_nx ro own false (.astore k) t pc (im_l n L) (im_k n st) (im_w n T w) 0 0 = some (qs, im_s n T y) ∧ ab_all qs := by
  simp only [im_nx] at h
  split at h
  · rename_i x r
    obtain ⟨hb, h⟩ := im_cond h
    cases h
    have hk := im_blt hb
    rw [← im_l_len (n := n) L] at hk
    refine ⟨[], ?_, trivial⟩
    have e := im_st1_ok (n := n) L k (.inr (.inr x))
    match x with
    | .inl none =>
      show (if _ then some (([] : List Prop), ((pc + 2, ab_st1 (im_l n L) k (im_v n (.inr (.inr (.inl none)))), im_k n r, im_w n T w, 0, 0) : ab_S)) else none) = _
      rw [if_pos hk, e]
      rfl
    | .inl (some q) =>
      show (if _ then some (([] : List Prop), ((pc + 2, ab_st1 (im_l n L) k (im_v n (.inr (.inr (.inl (some q))))), im_k n r, im_w n T w, 0, 0) : ab_S)) else none) = _
      rw [if_pos hk, e]
      rfl
    | .inr q =>
      show (if _ then some (([] : List Prop), ((pc + 2, ab_st1 (im_l n L) k (im_v n (.inr (.inr (.inr q)))), im_k n r, im_w n T w, 0, 0) : ab_S)) else none) = _
      rw [if_pos hk, e]
      rfl
  · cases h
theorem im_o_astore_n {k : Fin 4} (h : im_nx own (.astore_n k) t pc L st w = some (ps, y)) (hp : ab_all ps) : ∃ qs, ab_nx ro own false (.astore_n k) t pc (im_l n L) (im_k n st) (im_w n T w) 0 0 = some (qs, im_s n T y) ∧ ab_all qs := by
  simp only [im_nx] at h
  split at h
  · rename_i x r
    obtain ⟨hb, h⟩ := im_cond h
    cases h
    have hk := im_blt hb
    rw [← im_l_len (n := n) L] at hk
    refine ⟨[], ?_, trivial⟩
    have e := im_st1_ok (n := n) L (k : Nat) (.inr (.inr x))
    match x with
    | .inl none =>
      show (if _ then some (([] : List Prop), ((pc + 1, ab_st1 (im_l n L) (k : Nat) (im_v n (.inr (.inr (.inl none)))), im_k n r, im_w n T w, 0, 0) : ab_S)) else none) = _
      rw [if_pos hk, e]
      rfl
    | .inl (some q) =>
      show (if _ then some (([] : List Prop), ((pc + 1, ab_st1 (im_l n L) (k : Nat) (im_v n (.inr (.inr (.inl (some q))))), im_k n r, im_w n T w, 0, 0) : ab_S)) else none) = _
      rw [if_pos hk, e]
      rfl
    | .inr q =>
      show (if _ then some (([] : List Prop), ((pc + 1, ab_st1 (im_l n L) (k : Nat) (im_v n (.inr (.inr (.inr q)))), im_k n r, im_w n T w, 0, 0) : ab_S)) else none) = _
      rw [if_pos hk, e]
      rfl
  · cases h
theorem im_o_iinc {k : Nat} {q : Int} (h : im_nx own (.iinc k q) t pc L st w = some (ps, y)) (hp : ab_all ps) : ∃ qs, ab_nx ro own false (.iinc k q) t pc (im_l n L) (im_k n st) (im_w n T w) 0 0 = some (qs, im_s n T y) ∧ ab_all qs := by
  simp only [im_nx] at h
  split at h
  · rename_i x hq
    obtain ⟨hb, h⟩ := im_cond h
    cases h
    have hk := im_blt hb
    rw [← im_l_len (n := n) L] at hk
    have e := im_ld_some (n := n) hq
    have e2 := im_st1_ok (n := n) L k (.inl (x + q))
    refine ⟨[], ?_, trivial⟩
    simp only [ab_nx, e, im_v]
    rw [if_pos hk, ← Int32.ofInt_add]
    exact congrArg (fun z => some (([] : List Prop), ((pc + 3, z, im_k n st, im_w n T w, 0, 0) : ab_S))) e2
  · cases h
theorem im_o_dup (h : im_nx own (.dup) t pc L st w = some (ps, y)) (hp : ab_all ps) : ∃ qs, ab_nx ro own false (.dup) t pc (im_l n L) (im_k n st) (im_w n T w) 0 0 = some (qs, im_s n T y) ∧ ab_all qs := by
  simp only [im_nx] at h
  split at h
  · cases h
    exact ⟨_, rfl, trivial⟩
  · cases h
    exact ⟨_, rfl, trivial⟩
  · cases h
theorem im_o_dup2 (h : im_nx own (.dup2) t pc L st w = some (ps, y)) (hp : ab_all ps) : ∃ qs, ab_nx ro own false (.dup2) t pc (im_l n L) (im_k n st) (im_w n T w) 0 0 = some (qs, im_s n T y) ∧ ab_all qs := by
  simp only [im_nx] at h
  split at h
  · cases h
    exact ⟨_, rfl, trivial⟩
  · cases h
    exact ⟨_, rfl, trivial⟩
  · cases h
theorem im_o_pop (h : im_nx own (.pop) t pc L st w = some (ps, y)) (hp : ab_all ps) : ∃ qs, ab_nx ro own false (.pop) t pc (im_l n L) (im_k n st) (im_w n T w) 0 0 = some (qs, im_s n T y) ∧ ab_all qs := by
  simp only [im_nx] at h
  split at h
  · cases h
    exact ⟨_, rfl, trivial⟩
  · cases h
theorem im_o_iadd (h : im_nx own (.iadd) t pc L st w = some (ps, y)) (hp : ab_all ps) : ∃ qs, ab_nx ro own false (.iadd) t pc (im_l n L) (im_k n st) (im_w n T w) 0 0 = some (qs, im_s n T y) ∧ ab_all qs := by
  simp only [im_nx] at h
  split at h
  · rename_i y x r
    cases h
    refine ⟨[], ?_, trivial⟩
    refine congrArg (fun z => some (([] : List Prop), ((pc + 1, im_l n L, z :: im_k n r, im_w n T w, 0, 0) : ab_S))) ?_
    show Value.int (Int32.ofInt x + Int32.ofInt y) = Value.int (Int32.ofInt (x + y))
    rw [Int32.ofInt_add]
  · cases h
theorem im_o_isub (h : im_nx own (.isub) t pc L st w = some (ps, y)) (hp : ab_all ps) : ∃ qs, ab_nx ro own false (.isub) t pc (im_l n L) (im_k n st) (im_w n T w) 0 0 = some (qs, im_s n T y) ∧ ab_all qs := by
  simp only [im_nx] at h
  split at h
  · rename_i y x r
    cases h
    refine ⟨[], ?_, trivial⟩
    refine congrArg (fun z => some (([] : List Prop), ((pc + 1, im_l n L, z :: im_k n r, im_w n T w, 0, 0) : ab_S))) ?_
    show Value.int (Int32.ofInt x - Int32.ofInt y) = Value.int (Int32.ofInt (x - y))
    rw [Int32.ofInt_sub]
  · cases h
theorem im_o_imul (h : im_nx own (.imul) t pc L st w = some (ps, y)) (hp : ab_all ps) : ∃ qs, ab_nx ro own false (.imul) t pc (im_l n L) (im_k n st) (im_w n T w) 0 0 = some (qs, im_s n T y) ∧ ab_all qs := by
  simp only [im_nx] at h
  split at h
  · rename_i y x r
    cases h
    refine ⟨[], ?_, trivial⟩
    refine congrArg (fun z => some (([] : List Prop), ((pc + 1, im_l n L, z :: im_k n r, im_w n T w, 0, 0) : ab_S))) ?_
    show Value.int (Int32.ofInt x * Int32.ofInt y) = Value.int (Int32.ofInt (x * y))
    rw [im_mul32]
  · cases h
theorem im_o_ineg (h : im_nx own (.ineg) t pc L st w = some (ps, y)) (hp : ab_all ps) : ∃ qs, ab_nx ro own false (.ineg) t pc (im_l n L) (im_k n st) (im_w n T w) 0 0 = some (qs, im_s n T y) ∧ ab_all qs := by
  simp only [im_nx] at h
  split at h
  · rename_i x r
    cases h
    refine ⟨[], ?_, trivial⟩
    refine congrArg (fun z => some (([] : List Prop), ((pc + 1, im_l n L, z :: im_k n r, im_w n T w, 0, 0) : ab_S))) ?_
    show Value.int (-Int32.ofInt x) = Value.int (Int32.ofInt (-x))
    rw [Int32.ofInt_neg]
  · cases h
theorem im_o_iand (h : im_nx own (.iand) t pc L st w = some (ps, y)) (hp : ab_all ps) : ∃ qs, ab_nx ro own false (.iand) t pc (im_l n L) (im_k n st) (im_w n T w) 0 0 = some (qs, im_s n T y) ∧ ab_all qs := by
  simp only [im_nx] at h
  split at h
  · rename_i y x r
    cases h
    refine ⟨[], ?_, trivial⟩
    refine congrArg (fun z => some (([] : List Prop), ((pc + 1, im_l n L, z :: im_k n r, im_w n T w, 0, 0) : ab_S))) ?_
    show Value.int (Int32.ofInt x &&& Int32.ofInt y) = Value.int (Int32.ofInt (im_and x y))
    rw [show im_and x y = (Int32.ofInt x &&& Int32.ofInt y).toInt from rfl, Int32.ofInt_toInt]
  · cases h
theorem im_o_ior (h : im_nx own (.ior) t pc L st w = some (ps, y)) (hp : ab_all ps) : ∃ qs, ab_nx ro own false (.ior) t pc (im_l n L) (im_k n st) (im_w n T w) 0 0 = some (qs, im_s n T y) ∧ ab_all qs := by
  simp only [im_nx] at h
  split at h
  · rename_i y x r
    cases h
    refine ⟨[], ?_, trivial⟩
    refine congrArg (fun z => some (([] : List Prop), ((pc + 1, im_l n L, z :: im_k n r, im_w n T w, 0, 0) : ab_S))) ?_
    show Value.int (Int32.ofInt x ||| Int32.ofInt y) = Value.int (Int32.ofInt (im_or x y))
    rw [show im_or x y = (Int32.ofInt x ||| Int32.ofInt y).toInt from rfl, Int32.ofInt_toInt]
  · cases h
theorem im_o_ixor (h : im_nx own (.ixor) t pc L st w = some (ps, y)) (hp : ab_all ps) : ∃ qs, ab_nx ro own false (.ixor) t pc (im_l n L) (im_k n st) (im_w n T w) 0 0 = some (qs, im_s n T y) ∧ ab_all qs := by
  simp only [im_nx] at h
  split at h
  · rename_i y x r
    cases h
    refine ⟨[], ?_, trivial⟩
    refine congrArg (fun z => some (([] : List Prop), ((pc + 1, im_l n L, z :: im_k n r, im_w n T w, 0, 0) : ab_S))) ?_
    show Value.int (Int32.ofInt x ^^^ Int32.ofInt y) = Value.int (Int32.ofInt (im_xor x y))
    rw [show im_xor x y = (Int32.ofInt x ^^^ Int32.ofInt y).toInt from rfl, Int32.ofInt_toInt]
  · cases h
theorem im_o_ishl (h : im_nx own (.ishl) t pc L st w = some (ps, y)) (hp : ab_all ps) : ∃ qs, ab_nx ro own false (.ishl) t pc (im_l n L) (im_k n st) (im_w n T w) 0 0 = some (qs, im_s n T y) ∧ ab_all qs := by
  simp only [im_nx] at h
  split at h
  · rename_i y x r
    cases h
    refine ⟨[], ?_, trivial⟩
    refine congrArg (fun z => some (([] : List Prop), ((pc + 1, im_l n L, z :: im_k n r, im_w n T w, 0, 0) : ab_S))) ?_
    show Value.int (Int32.ofInt x <<< (Int32.ofInt y &&& 31)) = Value.int (Int32.ofInt (im_shl x y))
    rw [show im_shl x y = (Int32.ofInt x <<< (Int32.ofInt y &&& 31)).toInt from rfl, Int32.ofInt_toInt]
  · cases h
theorem im_o_ishr (h : im_nx own (.ishr) t pc L st w = some (ps, y)) (hp : ab_all ps) : ∃ qs, ab_nx ro own false (.ishr) t pc (im_l n L) (im_k n st) (im_w n T w) 0 0 = some (qs, im_s n T y) ∧ ab_all qs := by
  simp only [im_nx] at h
  split at h
  · rename_i y x r
    cases h
    refine ⟨[], ?_, trivial⟩
    refine congrArg (fun z => some (([] : List Prop), ((pc + 1, im_l n L, z :: im_k n r, im_w n T w, 0, 0) : ab_S))) ?_
    show Value.int (Int32.ofInt x >>> (Int32.ofInt y &&& 31)) = Value.int (Int32.ofInt (im_shr x y))
    rw [show im_shr x y = (Int32.ofInt x >>> (Int32.ofInt y &&& 31)).toInt from rfl, Int32.ofInt_toInt]
  · cases h
theorem im_o_iushr (h : im_nx own (.iushr) t pc L st w = some (ps, y)) (hp : ab_all ps) : ∃ qs, ab_nx ro own false (.iushr) t pc (im_l n L) (im_k n st) (im_w n T w) 0 0 = some (qs, im_s n T y) ∧ ab_all qs := by
  simp only [im_nx] at h
  split at h
  · rename_i y x r
    cases h
    refine ⟨[], ?_, trivial⟩
    refine congrArg (fun z => some (([] : List Prop), ((pc + 1, im_l n L, z :: im_k n r, im_w n T w, 0, 0) : ab_S))) ?_
    show Value.int (((Int32.ofInt x).toUInt32 >>> ((Int32.ofInt y).toUInt32 &&& Int32.toUInt32 31)).toInt32) = Value.int (Int32.ofInt (im_ushr x y))
    rw [show im_ushr x y = (((Int32.ofInt x).toUInt32 >>> ((Int32.ofInt y).toUInt32 &&& Int32.toUInt32 31)).toInt32).toInt from rfl, Int32.ofInt_toInt]
  · cases h
theorem im_o_idiv (h : im_nx own (.idiv) t pc L st w = some (ps, y)) (hp : ab_all ps) : ∃ qs, ab_nx ro own false (.idiv) t pc (im_l n L) (im_k n st) (im_w n T w) 0 0 = some (qs, im_s n T y) ∧ ab_all qs := by
  simp only [im_nx] at h
  split at h
  · rename_i y x r
    cases h
    obtain ⟨h1, h2, h3, -⟩ := hp
    refine ⟨[¬ Int32.ofInt y = 0], ?_, ⟨fun z => h3 ((im_eq h2 im_0).mp z), trivial⟩⟩
    refine congrArg (fun z => some (([¬ Int32.ofInt y = 0] : List Prop), ((pc + 1, im_l n L, z :: im_k n r, im_w n T w, 0, 0) : ab_S))) ?_
    show Value.int (Int32.ofInt x / Int32.ofInt y) = Value.int (Int32.ofInt (x.tdiv y))
    rw [im_div32 h1 h2]
  · cases h
theorem im_o_irem (h : im_nx own (.irem) t pc L st w = some (ps, y)) (hp : ab_all ps) : ∃ qs, ab_nx ro own false (.irem) t pc (im_l n L) (im_k n st) (im_w n T w) 0 0 = some (qs, im_s n T y) ∧ ab_all qs := by
  simp only [im_nx] at h
  split at h
  · rename_i y x r
    cases h
    obtain ⟨h1, h2, h3, -⟩ := hp
    refine ⟨[¬ Int32.ofInt y = 0], ?_, ⟨fun z => h3 ((im_eq h2 im_0).mp z), trivial⟩⟩
    refine congrArg (fun z => some (([¬ Int32.ofInt y = 0] : List Prop), ((pc + 1, im_l n L, z :: im_k n r, im_w n T w, 0, 0) : ab_S))) ?_
    show Value.int (Int32.ofInt x - Int32.ofInt x / Int32.ofInt y * Int32.ofInt y) = Value.int (Int32.ofInt (x.tmod y))
    rw [im_rem32 h1 h2]
  · cases h
theorem im_o_ldiv (h : im_nx own (.ldiv) t pc L st w = some (ps, y)) (hp : ab_all ps) : ∃ qs, ab_nx ro own false (.ldiv) t pc (im_l n L) (im_k n st) (im_w n T w) 0 0 = some (qs, im_s n T y) ∧ ab_all qs := by
  simp only [im_nx] at h
  split at h
  · rename_i y x r
    cases h
    obtain ⟨h1, h2, h3, -⟩ := hp
    refine ⟨[¬ Int64.ofInt y = 0], ?_, ⟨fun z => h3 (by have e := congrArg Int64.toInt z; rw [im_j h2] at e; exact e), trivial⟩⟩
    refine congrArg (fun z => some (([¬ Int64.ofInt y = 0] : List Prop), ((pc + 1, im_l n L, z :: im_k n r, im_w n T w, 0, 0) : ab_S))) ?_
    show Value.long (Int64.ofInt x / Int64.ofInt y) = Value.long (Int64.ofInt (x.tdiv y))
    rw [im_div64 h1 h2]
  · cases h
theorem im_o_lrem (h : im_nx own (.lrem) t pc L st w = some (ps, y)) (hp : ab_all ps) : ∃ qs, ab_nx ro own false (.lrem) t pc (im_l n L) (im_k n st) (im_w n T w) 0 0 = some (qs, im_s n T y) ∧ ab_all qs := by
  simp only [im_nx] at h
  split at h
  · rename_i y x r
    cases h
    obtain ⟨h1, h2, h3, -⟩ := hp
    refine ⟨[¬ Int64.ofInt y = 0], ?_, ⟨fun z => h3 (by have e := congrArg Int64.toInt z; rw [im_j h2] at e; exact e), trivial⟩⟩
    refine congrArg (fun z => some (([¬ Int64.ofInt y = 0] : List Prop), ((pc + 1, im_l n L, z :: im_k n r, im_w n T w, 0, 0) : ab_S))) ?_
    show Value.long (Int64.ofInt x - Int64.ofInt x / Int64.ofInt y * Int64.ofInt y) = Value.long (Int64.ofInt (x.tmod y))
    rw [im_rem64 h1 h2]
  · cases h
theorem im_o_ladd (h : im_nx own (.ladd) t pc L st w = some (ps, y)) (hp : ab_all ps) : ∃ qs, ab_nx ro own false (.ladd) t pc (im_l n L) (im_k n st) (im_w n T w) 0 0 = some (qs, im_s n T y) ∧ ab_all qs := by
  simp only [im_nx] at h
  split at h
  · rename_i y x r
    cases h
    refine ⟨[], ?_, trivial⟩
    refine congrArg (fun z => some (([] : List Prop), ((pc + 1, im_l n L, z :: im_k n r, im_w n T w, 0, 0) : ab_S))) ?_
    show Value.long (Int64.ofInt x + Int64.ofInt y) = Value.long (Int64.ofInt (x + y))
    rw [Int64.ofInt_add]
  · cases h
theorem im_o_lsub (h : im_nx own (.lsub) t pc L st w = some (ps, y)) (hp : ab_all ps) : ∃ qs, ab_nx ro own false (.lsub) t pc (im_l n L) (im_k n st) (im_w n T w) 0 0 = some (qs, im_s n T y) ∧ ab_all qs := by
  simp only [im_nx] at h
  split at h
  · rename_i y x r
    cases h
    refine ⟨[], ?_, trivial⟩
    refine congrArg (fun z => some (([] : List Prop), ((pc + 1, im_l n L, z :: im_k n r, im_w n T w, 0, 0) : ab_S))) ?_
    show Value.long (Int64.ofInt x - Int64.ofInt y) = Value.long (Int64.ofInt (x - y))
    rw [Int64.ofInt_sub]
  · cases h
theorem im_o_lmul (h : im_nx own (.lmul) t pc L st w = some (ps, y)) (hp : ab_all ps) : ∃ qs, ab_nx ro own false (.lmul) t pc (im_l n L) (im_k n st) (im_w n T w) 0 0 = some (qs, im_s n T y) ∧ ab_all qs := by
  simp only [im_nx] at h
  split at h
  · rename_i y x r
    cases h
    refine ⟨[], ?_, trivial⟩
    refine congrArg (fun z => some (([] : List Prop), ((pc + 1, im_l n L, z :: im_k n r, im_w n T w, 0, 0) : ab_S))) ?_
    show Value.long (Int64.ofInt x * Int64.ofInt y) = Value.long (Int64.ofInt (x * y))
    rw [im_mul64]
  · cases h
theorem im_o_i2l (h : im_nx own (.i2l) t pc L st w = some (ps, y)) (hp : ab_all ps) : ∃ qs, ab_nx ro own false (.i2l) t pc (im_l n L) (im_k n st) (im_w n T w) 0 0 = some (qs, im_s n T y) ∧ ab_all qs := by
  simp only [im_nx] at h
  split at h
  · rename_i x r
    cases h
    obtain ⟨h1, -⟩ := hp
    refine ⟨[], ?_, trivial⟩
    refine congrArg (fun z => some (([] : List Prop), ((pc + 1, im_l n L, z :: im_k n r, im_w n T w, 0, 0) : ab_S))) ?_
    show Value.long ((Int32.ofInt x).toInt64) = Value.long (Int64.ofInt x)
    rw [im_i2l h1]
  · cases h
theorem im_o_l2i (h : im_nx own (.l2i) t pc L st w = some (ps, y)) (hp : ab_all ps) : ∃ qs, ab_nx ro own false (.l2i) t pc (im_l n L) (im_k n st) (im_w n T w) 0 0 = some (qs, im_s n T y) ∧ ab_all qs := by
  simp only [im_nx] at h
  split at h
  · rename_i x r
    cases h
    refine ⟨[], ?_, trivial⟩
    refine congrArg (fun z => some (([] : List Prop), ((pc + 1, im_l n L, z :: im_k n r, im_w n T w, 0, 0) : ab_S))) ?_
    show Value.int ((Int64.ofInt x).toInt32) = Value.int (Int32.ofInt x)
    rw [Int64.toInt32_ofInt]
  · cases h
theorem im_o_i2b (h : im_nx own (.i2b) t pc L st w = some (ps, y)) (hp : ab_all ps) : ∃ qs, ab_nx ro own false (.i2b) t pc (im_l n L) (im_k n st) (im_w n T w) 0 0 = some (qs, im_s n T y) ∧ ab_all qs := by
  simp only [im_nx] at h
  split at h
  · rename_i x r
    cases h
    refine ⟨[], ?_, trivial⟩
    refine congrArg (fun z => some (([] : List Prop), ((pc + 1, im_l n L, z :: im_k n r, im_w n T w, 0, 0) : ab_S))) ?_
    show Value.int ((Int32.ofInt x).toInt8.toInt32) = Value.int (Int32.ofInt (im_byte x))
    rw [im_b8]
  · cases h
theorem im_o_lcmp (h : im_nx own (.lcmp) t pc L st w = some (ps, y)) (hp : ab_all ps) : ∃ qs, ab_nx ro own false (.lcmp) t pc (im_l n L) (im_k n st) (im_w n T w) 0 0 = some (qs, im_s n T y) ∧ ab_all qs := by
  simp only [im_nx] at h
  split at h
  · rename_i y x r
    cases h
    obtain ⟨h1, h2, -⟩ := hp
    refine ⟨[], ?_, trivial⟩
    refine congrArg (fun z => some (([] : List Prop), ((pc + 1, im_l n L, z :: im_k n r, im_w n T w, 0, 0) : ab_S))) ?_
    show Value.int (lg_cmp (Int64.ofInt x) (Int64.ofInt y)) = Value.int (Int32.ofInt (im_cmp x y))
    rw [im_cmp_ok h1 h2]
  · cases h
theorem im_o_goto {f : Int} (h : im_nx own (.goto f) t pc L st w = some (ps, y)) (hp : ab_all ps) : ∃ qs, ab_nx ro own false (.goto f) t pc (im_l n L) (im_k n st) (im_w n T w) 0 0 = some (qs, im_s n T y) ∧ ab_all qs := by
  simp only [im_nx] at h
  cases h
  exact ⟨_, rfl, trivial⟩
theorem im_o_getfield {ix : Nat} (h : im_nx own (.getfield ix) t pc L st w = some (ps, y)) (hp : ab_all ps) : ∃ qs, ab_nx ro own false (.getfield ix) t pc (im_l n L) (im_k n st) (im_w n T w) 0 0 = some (qs, im_s n T y) ∧ ab_all qs := by
  simp only [im_nx] at h
  split at h
  · rename_i o r
    split at h
    · rename_i ci k cj fs hf hw
      cases hb : Nat.beq ci cj with
      | false => rw [hb] at h; cases h
      | true =>
        rw [hb, cond_true] at h
        split at h
        · rename_i v hv
          cases h
          have e := im_w_get (n := n) (T := T) hw
          have e2 : (fs.map (im_v n))[k]? = some (im_v n v) := by rw [List.getElem?_map, hv]; rfl
          refine ⟨[], ?_, trivial⟩
          simp only [ab_nx, im_k, List.map_cons, im_v, hf, e, im_e, hb, cond_true, e2]
          rfl
        · cases h
    · cases h
  · cases h
theorem im_o_putfield {ix : Nat} (h : im_nx own (.putfield ix) t pc L st w = some (ps, y)) (hp : ab_all ps) : ∃ qs, ab_nx ro own false (.putfield ix) t pc (im_l n L) (im_k n st) (im_w n T w) 0 0 = some (qs, im_s n T y) ∧ ab_all qs := by
  simp only [im_nx] at h
  split at h
  · rename_i v o r
    split at h
    · rename_i ci k cj fs hf hw
      cases hb : (Nat.beq ci cj && !ab_fin ci k && Nat.blt k fs.length) with
      | false => rw [hb] at h; cases h
      | true =>
        rw [hb, cond_true] at h
        split at h
        · rename_i qs hv
          cases h
          obtain ⟨qs', hq, hq2⟩ := im_fit_ok (n := n) hv hp
          have e := im_w_get (n := n) (T := T) hw
          have e2 := im_w_set (n := n) (T := T) (e' := .inl (cj, fs.set k v)) hw
          simp only [Bool.and_eq_true] at hb
          have hb2 : (Nat.beq ci cj && (!ab_fin ci k || (false && Nat.beq ci own)) && Nat.blt k (fs.map (im_v n)).length) = true := by
            rw [List.length_map, hb.1.1, hb.1.2, hb.2]
            rfl
          refine ⟨qs', ?_, hq2⟩
          show ab_nx ro own false (.putfield ix) t pc (im_l n L) (im_v n v :: .ref o :: im_k n r) (im_w n T w) 0 0 = _
          simp only [ab_nx, hf, e, im_e]
          rw [hb2, cond_true, hq]
          dsimp only
          refine congrArg (fun z => some (qs', ((pc + 3, im_l n L, im_k n r, z, 0, 0) : ab_S))) ?_
          rw [← e2]
          simp only [im_e, List.map_set]
        · cases h
    · cases h
  · cases h
theorem im_o_iaload (h : im_nx own (.iaload) t pc L st w = some (ps, y)) (hp : ab_all ps) : ∃ qs, ab_nx ro own false (.iaload) t pc (im_l n L) (im_k n st) (im_w n T w) 0 0 = some (qs, im_s n T y) ∧ ab_all qs := by
  simp only [im_nx] at h
  split at h
  · rename_i i o r
    split at h
    · rename_i m f hw
      cases h
      obtain ⟨h1, -⟩ := hp
      have e := im_w_get (n := n) (T := T) hw
      obtain ⟨g1, g2⟩ := im_ix h1
      refine ⟨[vp_in (Int32.ofInt i) m], ?_, g1, trivial⟩
      simp only [ab_nx, im_k, List.map_cons, im_v, e, im_e, Nat.beq, cond_true, cond_false]
      rw [g2, Int.toNat_of_nonneg h1.1]
      rfl
    · cases h
  · cases h
theorem im_o_baload (h : im_nx own (.baload) t pc L st w = some (ps, y)) (hp : ab_all ps) : ∃ qs, ab_nx ro own false (.baload) t pc (im_l n L) (im_k n st) (im_w n T w) 0 0 = some (qs, im_s n T y) ∧ ab_all qs := by
  simp only [im_nx] at h
  split at h
  · rename_i i o r
    split at h
    · rename_i m f hw
      cases h
      obtain ⟨h1, -⟩ := hp
      have e := im_w_get (n := n) (T := T) hw
      obtain ⟨g1, g2⟩ := im_ix h1
      refine ⟨[vp_in (Int32.ofInt i) m], ?_, g1, trivial⟩
      simp only [ab_nx, im_k, List.map_cons, im_v, e, im_e, Nat.beq, cond_true, cond_false]
      rw [g2, Int.toNat_of_nonneg h1.1]
      rfl
    · rename_i m f hw
      cases h
      obtain ⟨h1, -⟩ := hp
      have e := im_w_get (n := n) (T := T) hw
      obtain ⟨g1, g2⟩ := im_ix h1
      refine ⟨[vp_in (Int32.ofInt i) m], ?_, g1, trivial⟩
      simp only [ab_nx, im_k, List.map_cons, im_v, e, im_e, Nat.beq, cond_true, cond_false]
      rw [g2, Int.toNat_of_nonneg h1.1]
      rfl
    · cases h
  · cases h
theorem im_o_laload (h : im_nx own (.laload) t pc L st w = some (ps, y)) (hp : ab_all ps) : ∃ qs, ab_nx ro own false (.laload) t pc (im_l n L) (im_k n st) (im_w n T w) 0 0 = some (qs, im_s n T y) ∧ ab_all qs := by
  simp only [im_nx] at h
  split at h
  · rename_i i o r
    split at h
    · rename_i m f hw
      cases h
      obtain ⟨h1, -⟩ := hp
      have e := im_w_get (n := n) (T := T) hw
      obtain ⟨g1, g2⟩ := im_ix h1
      refine ⟨[vp_in (Int32.ofInt i) m], ?_, g1, trivial⟩
      simp only [ab_nx, im_k, List.map_cons, im_v, e, im_e, Nat.beq, cond_true, cond_false]
      rw [g2, Int.toNat_of_nonneg h1.1]
      rfl
    · cases h
  · cases h
theorem im_o_aaload (h : im_nx own (.aaload) t pc L st w = some (ps, y)) (hp : ab_all ps) : ∃ qs, ab_nx ro own false (.aaload) t pc (im_l n L) (im_k n st) (im_w n T w) 0 0 = some (qs, im_s n T y) ∧ ab_all qs := by
  simp only [im_nx] at h
  split at h
  · rename_i i o r
    split at h
    · rename_i m g hw
      split at h
      · rename_i hg
        cases h
        obtain ⟨h1, -⟩ := hp
        have e := im_w_get (n := n) (T := T) hw
        obtain ⟨g1, g2⟩ := im_ix h1
        refine ⟨[vp_in (Int32.ofInt i) m], ?_, g1, trivial⟩
        simp only [ab_nx, im_k, List.map_cons, im_v, e, im_e]
        rw [g2, Int.toNat_of_nonneg h1.1, hg]
        rfl
      · rename_i q hg
        cases h
        obtain ⟨h1, -⟩ := hp
        have e := im_w_get (n := n) (T := T) hw
        obtain ⟨g1, g2⟩ := im_ix h1
        refine ⟨[vp_in (Int32.ofInt i) m], ?_, g1, trivial⟩
        simp only [ab_nx, im_k, List.map_cons, im_v, e, im_e]
        rw [g2, Int.toNat_of_nonneg h1.1, hg]
        rfl
    · rename_i m g hw
      cases h
      obtain ⟨h1, -⟩ := hp
      have e := im_w_get (n := n) (T := T) hw
      obtain ⟨g1, g2⟩ := im_ix h1
      refine ⟨[vp_in (Int32.ofInt i) m], ?_, g1, trivial⟩
      simp only [ab_nx, im_k, List.map_cons, im_v, e, im_e]
      rw [g2, Int.toNat_of_nonneg h1.1]
      cases g i with
      | none => rfl
      | some q => rfl
    · cases h
  · cases h
theorem im_o_iastore (h : im_nx own (.iastore) t pc L st w = some (ps, y)) (hp : ab_all ps) : ∃ qs, ab_nx ro own false (.iastore) t pc (im_l n L) (im_k n st) (im_w n T w) 0 0 = some (qs, im_s n T y) ∧ ab_all qs := by
  simp only [im_nx] at h
  split at h
  · rename_i x i o r
    split at h
    · rename_i m f hw
      cases h
      have h1 := hp.1
      have e := im_w_get (n := n) (T := T) hw
      have e2 := im_w_set (n := n) (T := T) (e' := .inr (0, m, .inl (im_up f i x))) hw
      obtain ⟨g1, g2⟩ := im_ix h1
      refine ⟨[vp_in (Int32.ofInt i) m], ?_, g1, trivial⟩
      simp only [ab_nx, im_k, List.map_cons, im_v, e, im_e, Nat.beq, cond_true, cond_false]
      refine congrArg (fun z => some (([vp_in (Int32.ofInt i) m] : List Prop), ((pc + 1, im_l n L, im_k n r, z, 0, 0) : ab_S))) ?_
      rw [g2, im_up32 h1.1]
      exact e2
    · cases h
  · cases h
theorem im_o_bastore (h : im_nx own (.bastore) t pc L st w = some (ps, y)) (hp : ab_all ps) : ∃ qs, ab_nx ro own false (.bastore) t pc (im_l n L) (im_k n st) (im_w n T w) 0 0 = some (qs, im_s n T y) ∧ ab_all qs := by
  simp only [im_nx] at h
  split at h
  · rename_i x i o r
    split at h
    · rename_i m f hw
      cases h
      have h1 := hp.1
      have e := im_w_get (n := n) (T := T) hw
      have e2 := im_w_set (n := n) (T := T) (e' := .inr (1, m, .inl (im_up f i x))) hw
      obtain ⟨g1, g2⟩ := im_ix h1
      refine ⟨[vp_in (Int32.ofInt i) m], ?_, g1, trivial⟩
      simp only [ab_nx, im_k, List.map_cons, im_v, e, im_e, Nat.beq, cond_true, cond_false]
      refine congrArg (fun z => some (([vp_in (Int32.ofInt i) m] : List Prop), ((pc + 1, im_l n L, im_k n r, z, 0, 0) : ab_S))) ?_
      rw [g2, im_nar8 hp.2.1, im_up32 h1.1]
      exact e2
    · rename_i m f hw
      cases h
      have h1 := hp.1
      have e := im_w_get (n := n) (T := T) hw
      have e2 := im_w_set (n := n) (T := T) (e' := .inr (3, m, .inl (im_up f i x))) hw
      obtain ⟨g1, g2⟩ := im_ix h1
      refine ⟨[vp_in (Int32.ofInt i) m], ?_, g1, trivial⟩
      simp only [ab_nx, im_k, List.map_cons, im_v, e, im_e, Nat.beq, cond_true, cond_false]
      refine congrArg (fun z => some (([vp_in (Int32.ofInt i) m] : List Prop), ((pc + 1, im_l n L, im_k n r, z, 0, 0) : ab_S))) ?_
      rw [g2, im_nar1 hp.2.1, im_up32 h1.1]
      exact e2
    · cases h
  · cases h
theorem im_o_lastore (h : im_nx own (.lastore) t pc L st w = some (ps, y)) (hp : ab_all ps) : ∃ qs, ab_nx ro own false (.lastore) t pc (im_l n L) (im_k n st) (im_w n T w) 0 0 = some (qs, im_s n T y) ∧ ab_all qs := by
  simp only [im_nx] at h
  split at h
  · rename_i x i o r
    split at h
    · rename_i m f hw
      cases h
      have h1 := hp.1
      have e := im_w_get (n := n) (T := T) hw
      have e2 := im_w_set (n := n) (T := T) (e' := .inr (2, m, .inl (im_up f i x))) hw
      obtain ⟨g1, g2⟩ := im_ix h1
      refine ⟨[vp_in (Int32.ofInt i) m], ?_, g1, trivial⟩
      simp only [ab_nx, im_k, List.map_cons, im_v, e, im_e, Nat.beq, cond_true, cond_false]
      refine congrArg (fun z => some (([vp_in (Int32.ofInt i) m] : List Prop), ((pc + 1, im_l n L, im_k n r, z, 0, 0) : ab_S))) ?_
      rw [g2, im_up64 h1.1]
      exact e2
    · cases h
  · cases h
theorem im_o_arraylength (h : im_nx own (.arraylength) t pc L st w = some (ps, y)) (hp : ab_all ps) : ∃ qs, ab_nx ro own false (.arraylength) t pc (im_l n L) (im_k n st) (im_w n T w) 0 0 = some (qs, im_s n T y) ∧ ab_all qs := by
  simp only [im_nx] at h
  split at h
  · rename_i o r
    split at h
    · rename_i q m f hw
      obtain ⟨hb, h⟩ := im_cond h
      cases h
      have e := im_w_get (n := n) (T := T) hw
      refine ⟨[], ?_, trivial⟩
      match f with
      | .inl f =>
        cases hb2 : Nat.beq q 2 with
        | true =>
          simp only [ab_nx, im_k, List.map_cons, im_v, e, im_e, hb2, cond_true, hb]
          rfl
        | false =>
          simp only [ab_nx, im_k, List.map_cons, im_v, e, im_e, hb2, cond_false, cond_true, hb]
          rfl
      | .inr (.inl f) =>
        simp only [ab_nx, im_k, List.map_cons, im_v, e, im_e, cond_true, hb]
        rfl
      | .inr (.inr f) =>
        simp only [ab_nx, im_k, List.map_cons, im_v, e, im_e, cond_true, hb]
        rfl
    · cases h
  · cases h
theorem im_o_invokestatic {ix : Nat} (h : im_nx own (.invokestatic ix) t pc L st w = some (ps, y)) (hp : ab_all ps) : ∃ qs, ab_nx ro own false (.invokestatic ix) t pc (im_l n L) (im_k n st) (im_w n T w) 0 0 = some (qs, im_s n T y) ∧ ab_all qs := by
  simp only [im_nx] at h
  split at h
  · rename_i y x r hl
    obtain ⟨hb, h⟩ := im_cond h
    cases h
    obtain ⟨h1, h2, -⟩ := hp
    refine ⟨[], ?_, trivial⟩
    have hs : Nat.ble (ab_sum (im_k n r)) 8 = true := by rw [im_sum_ok]; exact hb
    simp only [ab_nx, im_k, List.map_cons, im_v, hl]
    show cond (Nat.ble (ab_sum (im_k n r)) 8) _ _ = _
    rw [hs, cond_true]
    refine congrArg (fun z => some (([] : List Prop), ((pc + 3, im_l n L, z :: im_k n r, im_w n T w, 0, 0) : ab_S))) ?_
    show Value.int _ = Value.int (Int32.ofInt (min x y))
    refine congrArg Value.int ?_
    by_cases e : y < x
    · rw [if_pos ((im_lt h2 h1).mpr e), Int.min_eq_right (by omega)]
    · rw [if_neg (fun z => e ((im_lt h2 h1).mp z)), Int.min_eq_left (by omega)]
  · rename_i y x r hl
    obtain ⟨hb, h⟩ := im_cond h
    cases h
    obtain ⟨h1, h2, -⟩ := hp
    refine ⟨[], ?_, trivial⟩
    have hs : Nat.ble (ab_sum (im_k n r)) 8 = true := by rw [im_sum_ok]; exact hb
    simp only [ab_nx, im_k, List.map_cons, im_v, hl]
    show cond (Nat.ble (ab_sum (im_k n r)) 8) _ _ = _
    rw [hs, cond_true]
    refine congrArg (fun z => some (([] : List Prop), ((pc + 3, im_l n L, z :: im_k n r, im_w n T w, 0, 0) : ab_S))) ?_
    show Value.int _ = Value.int (Int32.ofInt (max x y))
    refine congrArg Value.int ?_
    by_cases e : x < y
    · rw [if_pos ((im_lt h1 h2).mpr e), Int.max_eq_right (by omega)]
    · rw [if_neg (fun z => e ((im_lt h1 h2).mp z)), Int.max_eq_left (by omega)]
  · rename_i x r hl
    obtain ⟨hb, h⟩ := im_cond h
    cases h
    obtain ⟨h1, -⟩ := hp
    refine ⟨[], ?_, trivial⟩
    have hs : Nat.ble (ab_sum (im_k n r)) 8 = true := by rw [im_sum_ok]; exact hb
    simp only [ab_nx, im_k, List.map_cons, im_v, hl]
    show cond (Nat.ble (ab_sum (im_k n r)) 8) _ _ = _
    rw [hs, cond_true]
    refine congrArg (fun z => some (([] : List Prop), ((pc + 3, im_l n L, z :: im_k n r, im_w n T w, 0, 0) : ab_S))) ?_
    show Value.int _ = Value.int (Int32.ofInt (max x (-x)))
    refine congrArg Value.int ?_
    by_cases e : 0 ≤ x
    · have q : (0 : Int32) ≤ Int32.ofInt x := (im_le im_0 (by omega)).mpr e
      rw [if_pos q, Int.max_eq_left (by omega)]
    · have q : ¬ (0 : Int32) ≤ Int32.ofInt x := fun z => e ((im_le im_0 (by omega)).mp z)
      rw [if_neg q, Int.max_eq_right (by omega), Int32.ofInt_neg]
      exact Int32.zero_sub _
  · rename_i m dp o1 sp o0 r hl
    split at h
    · rename_i n0 f n1 g hw0 hw1
      obtain ⟨hb, h⟩ := im_cond h
      cases h
      obtain ⟨h1, h2, h3, h4, h5, -⟩ := hp
      obtain ⟨a1, a2⟩ := im_nn h1
      obtain ⟨b1, b2⟩ := im_nn h2
      obtain ⟨c1, c2⟩ := im_nn h3
      have e0 := im_w_get (n := n) (T := T) hw0
      have e1 := im_w_get (n := n) (T := T) hw1
      have e2 := im_w_set (n := n) (T := T) (e' := .inr (0, n1, .inl (im_cpy f g sp dp m))) hw1
      have hs : Nat.ble (ab_sum (im_k n r)) 8 = true := by rw [im_sum_ok]; exact hb
      refine ⟨[¬ Int32.ofInt sp < 0, ¬ Int32.ofInt dp < 0, ¬ Int32.ofInt m < 0, (Int32.ofInt sp).toNatClampNeg + (Int32.ofInt m).toNatClampNeg ≤ n0, (Int32.ofInt dp).toNatClampNeg + (Int32.ofInt m).toNatClampNeg ≤ n1], ?_, a1, b1, c1, by rw [a2, c2]; omega, by rw [b2, c2]; omega, trivial⟩
      simp only [ab_nx, im_k, List.map_cons, im_v, hl, e0, e1, im_e, Nat.beq, cond_false]
      show cond (Nat.ble (ab_sum (im_k n r)) 8) _ _ = _
      rw [hs, cond_true]
      refine congrArg (fun z => some (([¬ Int32.ofInt sp < 0, ¬ Int32.ofInt dp < 0, ¬ Int32.ofInt m < 0, (Int32.ofInt sp).toNatClampNeg + (Int32.ofInt m).toNatClampNeg ≤ n0, (Int32.ofInt dp).toNatClampNeg + (Int32.ofInt m).toNatClampNeg ≤ n1] : List Prop), ((pc + 3, im_l n L, im_k n r, z, 0, 0) : ab_S))) ?_
      rw [a2, b2, c2, im_cpy32 h1.1 h2.1 h3.1]
      exact e2
    · cases h
  · cases h
theorem im_nx_ok {i : Instr} (h : im_nx own i t pc L st w = some (ps, y)) (hp : ab_all ps) : ∃ qs, ab_nx ro own false i t pc (im_l n L) (im_k n st) (im_w n T w) 0 0 = some (qs, im_s n T y) ∧ ab_all qs := by
  cases i with
  | iconst k => exact im_o_iconst h hp
  | bipush k => exact im_o_bipush h hp
  | sipush k => exact im_o_sipush h hp
  | lconst k => exact im_o_lconst h hp
  | aconst_null => exact im_o_null h hp
  | ldc ix => exact im_o_ldc h hp
  | ldc_w ix => exact im_o_ldc_w h hp
  | ldc2_w ix => exact im_o_ldc2_w h hp
  | iload k => exact im_o_iload h hp
  | iload_n k => exact im_o_iload_n h hp
  | lload k => exact im_o_lload h hp
  | lload_n k => exact im_o_lload_n h hp
  | aload k => exact im_o_aload h hp
  | aload_n k => exact im_o_aload_n h hp
  | istore k => exact im_o_istore h hp
  | istore_n k => exact im_o_istore_n h hp
  | lstore k => exact im_o_lstore h hp
  | lstore_n k => exact im_o_lstore_n h hp
  | astore k => exact im_o_astore h hp
  | astore_n k => exact im_o_astore_n h hp
  | iinc k q => exact im_o_iinc h hp
  | dup => exact im_o_dup h hp
  | dup2 => exact im_o_dup2 h hp
  | pop => exact im_o_pop h hp
  | iadd => exact im_o_iadd h hp
  | isub => exact im_o_isub h hp
  | imul => exact im_o_imul h hp
  | ineg => exact im_o_ineg h hp
  | iand => exact im_o_iand h hp
  | ior => exact im_o_ior h hp
  | ixor => exact im_o_ixor h hp
  | ishl => exact im_o_ishl h hp
  | ishr => exact im_o_ishr h hp
  | iushr => exact im_o_iushr h hp
  | idiv => exact im_o_idiv h hp
  | irem => exact im_o_irem h hp
  | ldiv => exact im_o_ldiv h hp
  | lrem => exact im_o_lrem h hp
  | ladd => exact im_o_ladd h hp
  | lsub => exact im_o_lsub h hp
  | lmul => exact im_o_lmul h hp
  | i2l => exact im_o_i2l h hp
  | l2i => exact im_o_l2i h hp
  | i2b => exact im_o_i2b h hp
  | lcmp => exact im_o_lcmp h hp
  | goto f => exact im_o_goto h hp
  | getfield ix => exact im_o_getfield h hp
  | putfield ix => exact im_o_putfield h hp
  | iaload => exact im_o_iaload h hp
  | baload => exact im_o_baload h hp
  | laload => exact im_o_laload h hp
  | aaload => exact im_o_aaload h hp
  | iastore => exact im_o_iastore h hp
  | bastore => exact im_o_bastore h hp
  | lastore => exact im_o_lastore h hp
  | arraylength => exact im_o_arraylength h hp
  | invokestatic ix => exact im_o_invokestatic h hp
  | _ => cases h
end ImS
