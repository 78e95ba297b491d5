/-! the checker is sound: branches, returns, calls, measures -/
section CkB
variable {ro : ab_R} {sp : Nat → ty_S} {fb : List (Nat × Nat)} {G : Nat → Nat} {own : Nat}
/-- how two numbers stand to each other -/
def ck_rel (c : Nat) (x y : Int) : Prop := match c with
  | 0 => x = y
  | 1 => ¬ x = y
  | 2 => x < y
  | 3 => y ≤ x
  | 4 => y < x
  | _ => x ≤ y
theorem ck_rel_flip {c : Nat} {x y : Int} (h : ck_rel c x y) : ck_rel (ck_flip c) y x := by
  match c, h with
  | 0, h => exact Eq.symm h
  | 1, h => exact fun z => h z.symm
  | 2, h => exact h
  | 3, h => exact h
  | 4, h => exact h
  | n + 5, h => exact h
theorem ck_rel_neg {c : Nat} {x y : Int} (h : ¬ ck_rel c x y) : ck_rel (ck_neg c) x y := by
  match c, h with
  | 0, h => exact h
  | 1, h => exact Classical.byContradiction h
  | 2, h => exact Int.not_lt.mp h
  | 3, h => exact Int.not_le.mp h
  | 4, h => exact Int.not_lt.mp h
  | n + 5, h => exact Int.not_le.mp h
theorem ck_ref_ok {c : Nat} {s t : ty_A} {x : Int32} {y : Int} (h : ck_rel c x.toInt y) (hx : s.2.1 ≤ x.toInt ∧ x.toInt ≤ s.2.2) (hy : t.2.1 ≤ y ∧ y ≤ t.2.2) : ∃ u, ck_ref c s t = some u ∧ ty_v G u (.int x) := by
  have fin : ∀ lo hi : Int, lo ≤ x.toInt → x.toInt ≤ hi → ∃ u : ty_A, (if lo ≤ hi then some ((0, lo, hi) : ty_A) else none) = some u ∧ ty_v G u (.int x) := by
    intro lo hi h1 h2
    exact ⟨(0, lo, hi), by rw [if_pos (by omega)], rfl, h1, h2⟩
  match c, h with
  | 0, h =>
    have h : x.toInt = y := h
    exact fin (max s.2.1 t.2.1) (min s.2.2 t.2.2) (by omega) (by omega)
  | 1, h =>
    have h : ¬ x.toInt = y := h
    unfold ck_ref
    dsimp only
    cases e1 : decide (t.2.1 = t.2.2) with
    | false => exact fin s.2.1 s.2.2 hx.1 hx.2
    | true =>
      rw [decide_eq_true_eq] at e1
      refine fin _ _ ?_ ?_
      · cases e2 : decide (s.2.1 = t.2.1) with
        | false => exact hx.1
        | true =>
          rw [decide_eq_true_eq] at e2
          show s.2.1 + 1 ≤ x.toInt
          omega
      · cases e2 : decide (s.2.2 = t.2.1) with
        | false => exact hx.2
        | true =>
          rw [decide_eq_true_eq] at e2
          show x.toInt ≤ s.2.2 - 1
          omega
  | 2, h =>
    have h : x.toInt < y := h
    exact fin s.2.1 (min s.2.2 (t.2.2 - 1)) hx.1 (by omega)
  | 3, h =>
    have h : y ≤ x.toInt := h
    exact fin (max s.2.1 t.2.1) s.2.2 (by omega) hx.2
  | 4, h =>
    have h : y < x.toInt := h
    exact fin (max s.2.1 (t.2.1 + 1)) s.2.2 (by omega) hx.2
  | n + 5, h =>
    have h : x.toInt ≤ y := h
    exact fin s.2.1 (min s.2.2 t.2.2) hx.1 (by omega)
theorem ck_two_ok {A : ck_A} {c : Nat} {p q : ck_V} {x y : Int32} {L : ab_L} {st : List Value} {w : ab_W} (hm : ck_ms G A L st w) (h : ck_rel c x.toInt y.toInt) (hx : ty_v G p.1 (.int x)) (hy : ty_v G q.1 (.int y)) (gx : ck_tag L w p.2 (.int x)) (gy : ck_tag L w q.2 (.int y)) : ∃ B, ck_two A c p q = some B ∧ ck_ms G B L st w := by
  obtain ⟨u, e1, h1⟩ := ck_ref_ok (G := G) (t := q.1) h hx.2 hy.2
  obtain ⟨v, e2, h2⟩ := ck_ref_ok (G := G) (t := p.1) (ck_rel_flip h) hy.2 hx.2
  refine ⟨ck_app (ck_app A p.2 u) q.2 v, by unfold ck_two; rw [e1, e2], ck_app_ok (ck_app_ok hm h1 gx) h2 gy⟩
/-- a branch's own condition, as the checker has it -/
theorem ck_cnd_ok (c : ClassFile.Cond) (off : Int) (tgt pc a b : Nat) (L : ab_L) (r : List Value) (w : ab_W) (x : Int32) : ∃ P : Prop, ab_br (.ifCond c off) tgt pc L (.int x :: r) w a b = some (P, (tgt, L, r, w, a, b), (pc + 3, L, r, w, a, b)) ∧ (P ↔ ck_rel (ck_cnd c) x.toInt (0 : Int32).toInt) := by
  cases c with
  | eq => exact ⟨_, rfl, by rw [← Int32.toInt_inj]; exact Iff.rfl⟩
  | ne => exact ⟨_, rfl, by rw [← Int32.toInt_inj]; exact Iff.rfl⟩
  | lt => exact ⟨_, rfl, by rw [Int32.lt_iff_toInt_lt]; exact Iff.rfl⟩
  | ge => exact ⟨_, rfl, by rw [Int32.le_iff_toInt_le]; exact Iff.rfl⟩
  | gt => exact ⟨_, rfl, by rw [Int32.lt_iff_toInt_lt]; exact Iff.rfl⟩
  | le => exact ⟨_, rfl, by rw [Int32.le_iff_toInt_le]; exact Iff.rfl⟩
theorem ck_icmp_ok (c : ClassFile.Cond) (off : Int) (tgt pc a b : Nat) (L : ab_L) (r : List Value) (w : ab_W) (x y : Int32) : ∃ P : Prop, ab_br (.if_icmp c off) tgt pc L (.int y :: .int x :: r) w a b = some (P, (tgt, L, r, w, a, b), (pc + 3, L, r, w, a, b)) ∧ (P ↔ ck_rel (ck_cnd c) x.toInt y.toInt) := by
  cases c with
  | eq => exact ⟨_, rfl, by rw [← Int32.toInt_inj]; exact Iff.rfl⟩
  | ne => exact ⟨_, rfl, by rw [← Int32.toInt_inj]; exact Iff.rfl⟩
  | lt => exact ⟨_, rfl, by rw [Int32.lt_iff_toInt_lt]; exact Iff.rfl⟩
  | ge => exact ⟨_, rfl, by rw [Int32.le_iff_toInt_le]; exact Iff.rfl⟩
  | gt => exact ⟨_, rfl, by rw [Int32.lt_iff_toInt_lt]; exact Iff.rfl⟩
  | le => exact ⟨_, rfl, by rw [Int32.le_iff_toInt_le]; exact Iff.rfl⟩
theorem ck_br_ok {i : Instr} {tgt pc a b : Nat} {A : ck_A} {X Y : Option (Nat × ck_A)} {L : ab_L} {st : List Value} {w : ab_W} (h : ck_br i tgt pc A = some (X, Y)) (hm : ck_ms G A L st w) : ∃ (P : Prop) (pc1 pc2 : Nat) (st' : List Value), ab_br i tgt pc L st w a b = some (P, (pc1, L, st', w, a, b), (pc2, L, st', w, a, b)) ∧ ((P ∧ ∃ B, X = some (pc1, B) ∧ ck_ms G B L st' w) ∨ (¬ P ∧ ∃ B, Y = some (pc2, B) ∧ ck_ms G B L st' w)) := by
  unfold ck_br at h
  split at h
  · rename_i c off
    split at h
    · rename_i p r e
      cases hb : Nat.beq p.1.1 0 with
      | false => rw [hb] at h; cases h
      | true =>
        rw [hb] at h
        cases h
        obtain ⟨v, rs, rfl, h2, h3, h4⟩ := ck_one hm e
        obtain ⟨x, rfl, h5⟩ := ty_int h2 (Nat.eq_of_beq_eq_true hb)
        obtain ⟨P, k1, k2⟩ := ck_cnd_ok c off tgt pc a b L rs w x
        refine ⟨P, tgt, pc + 3, rs, k1, ?_⟩
        have z0 : ty_v G (0, 0, 0) (.int 0) := ⟨rfl, by decide, by decide⟩
        by_cases hP : P
        · obtain ⟨B, e1, e2⟩ := ck_two_ok (q := ((0, 0, 0), (0, 0, 0))) (ck_pop_ok hm h4) (k2.mp hP) h2 z0 h3 trivial
          exact Or.inl ⟨hP, B, by rw [e1]; rfl, e2⟩
        · obtain ⟨B, e1, e2⟩ := ck_two_ok (q := ((0, 0, 0), (0, 0, 0))) (ck_pop_ok hm h4) (ck_rel_neg (fun z => hP (k2.mpr z))) h2 z0 h3 trivial
          exact Or.inr ⟨hP, B, by rw [e1]; rfl, e2⟩
    · cases h
  · rename_i c off
    split at h
    · rename_i q p r e
      cases hb : (Nat.beq p.1.1 0 && Nat.beq q.1.1 0) with
      | false => rw [hb] at h; cases h
      | true =>
        rw [hb] at h
        cases h
        rw [Bool.and_eq_true] at hb
        obtain ⟨v, rs, rfl, h2, h3, h4⟩ := ck_one hm e
        obtain ⟨u, rs2, rfl, h5, h6, h7⟩ := ck_stk_one h4
        obtain ⟨y, rfl, _⟩ := ty_int h2 (Nat.eq_of_beq_eq_true hb.2)
        obtain ⟨x, rfl, _⟩ := ty_int h5 (Nat.eq_of_beq_eq_true hb.1)
        obtain ⟨P, k1, k2⟩ := ck_icmp_ok c off tgt pc a b L rs2 w x y
        refine ⟨P, tgt, pc + 3, rs2, k1, ?_⟩
        by_cases hP : P
        · obtain ⟨B, e1, e2⟩ := ck_two_ok (ck_pop_ok hm h7) (k2.mp hP) h5 h2 h6 h3
          exact Or.inl ⟨hP, B, by rw [e1]; rfl, e2⟩
        · obtain ⟨B, e1, e2⟩ := ck_two_ok (ck_pop_ok hm h7) (ck_rel_neg (fun z => hP (k2.mpr z))) h5 h2 h6 h3
          exact Or.inr ⟨hP, B, by rw [e1]; rfl, e2⟩
    · cases h
  · rename_i off
    split at h
    · rename_i t g r e
      cases hb : Nat.beq t.1 2 with
      | false => rw [hb] at h; cases h
      | true =>
        rw [hb] at h
        cases h
        obtain ⟨v, rs, rfl, h2, h3, h4⟩ := ck_one hm e
        rcases ty_ref h2 (Nat.eq_of_beq_eq_true hb) with ⟨k, rfl, j1, j2⟩ | ⟨rfl, j1⟩
        · have j2 : (G k : Int) = t.2.1 := j2
          have hd : decide (t.2.1 = 0) = false := decide_eq_false (by omega)
          have hz : ty_v G (2, t.2.1, 0) (.ref k) := Or.inl ⟨rfl, j1, j2⟩
          exact ⟨False, tgt, pc + 3, rs, rfl, Or.inr ⟨id, _, by rw [hd]; rfl, ck_app_ok (ck_pop_ok hm h4) hz h3⟩⟩
        · have j1 : t.2.2 = 1 := j1
          have hd : decide (t.2.2 = 1) = true := decide_eq_true j1
          exact ⟨True, tgt, pc + 3, rs, rfl, Or.inl ⟨trivial, _, by rw [hd]; rfl, ck_pop_ok hm h4⟩⟩
    · cases h
  · rename_i off
    split at h
    · rename_i t g r e
      cases hb : Nat.beq t.1 2 with
      | false => rw [hb] at h; cases h
      | true =>
        rw [hb] at h
        cases h
        obtain ⟨v, rs, rfl, h2, h3, h4⟩ := ck_one hm e
        rcases ty_ref h2 (Nat.eq_of_beq_eq_true hb) with ⟨k, rfl, j1, j2⟩ | ⟨rfl, j1⟩
        · have j2 : (G k : Int) = t.2.1 := j2
          have hd : decide (t.2.1 = 0) = false := decide_eq_false (by omega)
          have hz : ty_v G (2, t.2.1, 0) (.ref k) := Or.inl ⟨rfl, j1, j2⟩
          exact ⟨True, tgt, pc + 3, rs, rfl, Or.inl ⟨trivial, _, by rw [hd]; rfl, ck_app_ok (ck_pop_ok hm h4) hz h3⟩⟩
        · have j1 : t.2.2 = 1 := j1
          have hd : decide (t.2.2 = 1) = true := decide_eq_true j1
          exact ⟨False, tgt, pc + 3, rs, rfl, Or.inr ⟨id, _, by rw [hd]; rfl, ck_pop_ok hm h4⟩⟩
    · cases h
  · cases h
/-- a method's answer is of its type -/
def ck_res (G : Nat → Nat) (rt : Option ty_A) (v : Option Value) : Prop := match rt, v with
  | some t, some x => ty_v G t x
  | none, none => True
  | _, _ => False
theorem ck_rt_ok {ret : Option FieldType} {rt : Option ty_A} {i : Instr} {A : ck_A} {L : ab_L} {st : List Value} {w : ab_W} (h : ck_rt ret rt i A = true) (hm : ck_ms G A L st w) : ∃ (ps : List Prop) (v : Option Value), ab_rt ret i st = some (ps, v) ∧ ab_all ps ∧ ck_res G rt v := by
  unfold ck_rt at h
  split at h
  · rename_i t g r e
    rw [Bool.and_eq_true] at h
    obtain ⟨v, rs, rfl, h2, h3, h4⟩ := ck_one hm e
    obtain ⟨x, rfl, _⟩ := ty_int h2 (Nat.eq_of_beq_eq_true h.1)
    cases rs with
    | nil => exact ⟨[], some (.int x), rfl, trivial, ty_le_ok h.2 h2⟩
    | cons _ _ => exact h4.elim
  · rename_i t g r e
    simp only [Bool.and_eq_true, decide_eq_true_eq] at h
    obtain ⟨v, rs, rfl, h2, h3, h4⟩ := ck_one hm e
    obtain ⟨x, rfl, h5, h6⟩ := ty_int h2 (Nat.eq_of_beq_eq_true h.1.1.1)
    cases rs with
    | nil =>
      refine ⟨[x = 0 ∨ x = 1], some (.int x), rfl, ⟨?_, trivial⟩, ty_le_ok h.2 h2⟩
      rw [← Int32.toInt_inj, ← Int32.toInt_inj, show (0 : Int32).toInt = 0 from by decide, show (1 : Int32).toInt = 1 from by decide]
      dsimp only at h5 h6
      omega
    | cons _ _ => exact h4.elim
  · rename_i t g r e
    rw [Bool.and_eq_true] at h
    obtain ⟨v, rs, rfl, h2, h3, h4⟩ := ck_one hm e
    obtain ⟨x, rfl, _⟩ := ty_long h2 (Nat.eq_of_beq_eq_true h.1)
    cases rs with
    | nil => exact ⟨[], some (.long x), rfl, trivial, ty_le_ok h.2 h2⟩
    | cons _ _ => exact h4.elim
  · rename_i cl t g r e
    rw [Bool.and_eq_true] at h
    obtain ⟨v, rs, rfl, h2, h3, h4⟩ := ck_one hm e
    cases rs with
    | nil =>
      rcases ty_ref h2 (Nat.eq_of_beq_eq_true h.1) with ⟨k, rfl, _⟩ | ⟨rfl, _⟩
      · exact ⟨[], some (.ref k), rfl, trivial, ty_le_ok h.2 h2⟩
      · exact ⟨[], some .null, rfl, trivial, ty_le_ok h.2 h2⟩
    | cons _ _ => exact h4.elim
  · rename_i e
    have h2 := hm.2.1
    rw [e] at h2
    cases st with
    | nil => exact ⟨[], none, rfl, trivial, trivial⟩
    | cons _ _ => exact h2.elim
  · cases h
/-- arguments of their types -/
def ck_tys (G : Nat → Nat) : List ty_A → List Value → Prop
  | [], [] => True
  | t :: ts, v :: vs => ty_v G t v ∧ ck_tys G ts vs
  | _, _ => False
theorem ck_tys_le : ∀ {s t : List ty_A} {vs : List Value}, ck_args s t = true → ck_tys G s vs → ck_tys G t vs
  | [], [], _, _, h => h
  | [], _ :: _, _, h, _ => by cases h
  | _ :: _, [], _, h, _ => by cases h
  | a :: s, b :: t, [], _, h => h.elim
  | a :: s, b :: t, v :: vs, h, hs => by
    have h : (ty_le a b && ck_args s t) = true := h
    rw [Bool.and_eq_true] at h
    exact ⟨ty_le_ok h.1 hs.1, ck_tys_le h.2 hs.2⟩
theorem ck_tys_app : ∀ {s t : List ty_A} {vs us : List Value}, ck_tys G s vs → ck_tys G t us → ck_tys G (s ++ t) (vs ++ us)
  | [], _, [], _, _, h => h
  | [], _, _ :: _, _, h, _ => h.elim
  | _ :: _, _, [], _, h, _ => h.elim
  | _ :: _, _, _ :: _, _, h, k => ⟨h.1, ck_tys_app h.2 k⟩
theorem ck_tys_rev : ∀ {s : List ty_A} {vs : List Value}, ck_tys G s vs → ck_tys G s.reverse vs.reverse
  | [], [], h => h
  | [], _ :: _, h => h.elim
  | _ :: _, [], h => h.elim
  | t :: s, v :: vs, h => by
    rw [List.reverse_cons, List.reverse_cons]
    exact ck_tys_app (ck_tys_rev h.2) ⟨h.1, trivial⟩
theorem ck_tys_mem : ∀ {s : List ty_A} {vs : List Value}, ck_tys G s vs → ∀ x ∈ vs, ∃ a, ty_v G a x
  | [], [], _, x, hx => by cases hx
  | [], _ :: _, h, _, _ => h.elim
  | _ :: _, [], h, _, _ => h.elim
  | t :: s, v :: vs, h, x, hx => by
    rcases List.mem_cons.mp hx with e | e
    · exact ⟨t, by rw [e]; exact h.1⟩
    · exact ck_tys_mem h.2 x e
/-- arguments of which the tags tell -/
def ck_tgs (L : ab_L) (w : ab_W) : List ck_T → List Value → Prop
  | [], [] => True
  | t :: ts, v :: vs => ck_tag L w t v ∧ ck_tgs L w ts vs
  | _, _ => False
theorem ck_tgs_app {L : ab_L} {w : ab_W} : ∀ {s t : List ck_T} {vs us : List Value}, ck_tgs L w s vs → ck_tgs L w t us → ck_tgs L w (s ++ t) (vs ++ us)
  | [], _, [], _, _, h => h
  | [], _, _ :: _, _, h, _ => h.elim
  | _ :: _, _, [], _, h, _ => h.elim
  | _ :: _, _, _ :: _, _, h, k => ⟨h.1, ck_tgs_app h.2 k⟩
theorem ck_tgs_rev {L : ab_L} {w : ab_W} : ∀ {s : List ck_T} {vs : List Value}, ck_tgs L w s vs → ck_tgs L w s.reverse vs.reverse
  | [], [], h => h
  | [], _ :: _, h => h.elim
  | _ :: _, [], h => h.elim
  | t :: s, v :: vs, h => by
    rw [List.reverse_cons, List.reverse_cons]
    exact ck_tgs_app (ck_tgs_rev h.2) ⟨h.1, trivial⟩
theorem ck_tgs_at {L : ab_L} {w : ab_W} : ∀ {s : List ck_T} {vs : List Value} {a : Nat} {t : ck_T}, ck_tgs L w s vs → s[a]? = some t → ∃ v, vs[a]? = some v ∧ ck_tag L w t v
  | [], _, _, _, _, h => by cases h
  | _ :: _, [], _, _, h, _ => h.elim
  | t :: s, v :: vs, 0, t', h, e => by
    cases e
    exact ⟨v, rfl, h.1⟩
  | _ :: s, _ :: vs, a + 1, _, h, e => ck_tgs_at (s := s) (vs := vs) (a := a) h.2 e
theorem ck_stk_tgs {L : ab_L} {w : ab_W} : ∀ (n : Nat) {s : List ck_V} {st : List Value}, ck_stk G L w s st → ck_tgs L w ((s.take n).map Prod.snd) (st.take n)
  | 0, s, st, h => trivial
  | n + 1, [], [], h => trivial
  | n + 1, [], _ :: _, h => h.elim
  | n + 1, _ :: _, [], h => h.elim
  | n + 1, q :: s, v :: vs, h => ⟨h.1.2, ck_stk_tgs n h.2⟩
theorem ck_stk_take {L : ab_L} {w : ab_W} : ∀ (n : Nat) {s : List ck_V} {st : List Value}, ck_stk G L w s st → ck_tys G ((s.take n).map Prod.fst) (st.take n) ∧ ck_stk G L w (s.drop n) (st.drop n)
  | 0, s, st, h => ⟨trivial, h⟩
  | n + 1, [], [], h => ⟨trivial, trivial⟩
  | n + 1, [], _ :: _, h => h.elim
  | n + 1, _ :: _, [], h => h.elim
  | n + 1, q :: s, v :: vs, h => ⟨⟨h.1.1, (ck_stk_take n h.2).1⟩, (ck_stk_take n h.2).2⟩
theorem ck_ca_ok {i : Instr} {A : ck_A} {j : Nat} {ts : List ty_A} {gs : List ck_T} {r : List ck_V} {L : ab_L} {st : List Value} {w : ab_W} (h : ck_ca sp own i A = some (j, ts, gs, r)) (hm : ck_ms G A L st w) (hw : ty_w sp G w) : ∃ (as rs : List Value), ab_ca own i st w = some (j, as, rs) ∧ ck_tys G ts as ∧ ck_tgs L w gs as ∧ ck_stk G L w r rs := by
  unfold ck_ca at h
  split at h
  · rename_i ix
    split at h
    · rename_i j' n e1
      split at h
      · rename_i t g r' e2
        split at h
        · rename_i cj nn ll e3
          cases hb : (Nat.beq (A.2.1.take n).length n && Nat.ble (ck_sum r') 8 && Nat.beq t.1 2 && decide (t.2.2 = 0) && decide (0 ≤ t.2.1) && Nat.beq cj (ab_ow j')) with
          | false => rw [hb] at h; cases h
          | true =>
            rw [hb] at h
            cases h
            simp only [Bool.and_eq_true, decide_eq_true_eq] at hb
            obtain ⟨⟨⟨⟨⟨b1, b2⟩, b3⟩, b4⟩, b5⟩, b6⟩ := hb
            obtain ⟨k1, k2⟩ := ck_stk_take n hm.2.1
            have hl := ck_stk_len hm.2.1
            rw [e2] at k2
            obtain ⟨v, rs, e4, k3, k4, k5⟩ := ck_stk_one k2
            obtain ⟨o, c, rfl, k6, k7, k8⟩ := ck_cell k3 hw (Nat.eq_of_beq_eq_true b3) b4
            rw [e3] at k8
            obtain ⟨ci, fs, rfl, k9, _⟩ := ty_obj k8 rfl
            have k9 : ci = cj := k9
            subst k9
            have b1' : Nat.beq (st.take n).length n = true := by
              rw [List.length_take, ← hl, ← List.length_take]
              exact b1
            rw [← ck_sum_ok k5] at b2
            exact ⟨.ref o :: (st.take n).reverse, rs, by simp only [ab_ca, e1, e4, k7, b1', b2, b6, Bool.and_self, cond_true], ⟨k3, ck_tys_rev k1⟩, ⟨k4, ck_tgs_rev (ck_stk_tgs n hm.2.1)⟩, k5⟩
        · cases h
      · cases h
    · cases h
  · rename_i ix
    split at h
    · rename_i j' n e1
      split at h
      · rename_i t g r' e2
        cases hb : (Nat.beq (A.2.1.take n).length n && Nat.ble (ck_sum r') 8 && Nat.beq t.1 2 && decide (t.2.2 = 0)) with
        | false => rw [hb] at h; cases h
        | true =>
          rw [hb] at h
          cases h
          simp only [Bool.and_eq_true, decide_eq_true_eq] at hb
          obtain ⟨⟨⟨b1, b2⟩, b3⟩, b4⟩ := hb
          obtain ⟨k1, k2⟩ := ck_stk_take n hm.2.1
          have hl := ck_stk_len hm.2.1
          rw [e2] at k2
          obtain ⟨v, rs, e4, k3, k4, k5⟩ := ck_stk_one k2
          obtain ⟨o, rfl, _⟩ := ty_refn k3 (Nat.eq_of_beq_eq_true b3) b4
          have b1' : Nat.beq (st.take n).length n = true := by
            rw [List.length_take, ← hl, ← List.length_take]
            exact b1
          rw [← ck_sum_ok k5] at b2
          exact ⟨.ref o :: (st.take n).reverse, rs, by simp only [ab_ca, e1, e4, b1', b2, Bool.and_self, cond_true], ⟨k3, ck_tys_rev k1⟩, ⟨k4, ck_tgs_rev (ck_stk_tgs n hm.2.1)⟩, k5⟩
      · cases h
    · cases h
  · rename_i ix
    split at h
    · rename_i j' n e1
      cases hb : (Nat.beq (A.2.1.take n).length n && Nat.ble (ck_sum (A.2.1.drop n)) 8) with
      | false => rw [hb] at h; cases h
      | true =>
        rw [hb] at h
        cases h
        rw [Bool.and_eq_true] at hb
        obtain ⟨k1, k2⟩ := ck_stk_take n hm.2.1
        have hl := ck_stk_len hm.2.1
        have b1' : Nat.beq (st.take n).length n = true := by
          rw [List.length_take, ← hl, ← List.length_take]
          exact hb.1
        have b2 := hb.2
        rw [← ck_sum_ok k2] at b2
        exact ⟨(st.take n).reverse, st.drop n, by simp only [ab_ca, e1, b1', b2, Bool.and_self, cond_true], ck_tys_rev k1, ck_tgs_rev (ck_stk_tgs n hm.2.1), k2⟩
    · rename_i j' n e1
      cases hb : (Nat.beq (A.2.1.take n).length n && Nat.ble (ck_sum (A.2.1.drop n)) 8) with
      | false => rw [hb] at h; cases h
      | true =>
        rw [hb] at h
        cases h
        rw [Bool.and_eq_true] at hb
        obtain ⟨k1, k2⟩ := ck_stk_take n hm.2.1
        have hl := ck_stk_len hm.2.1
        have b1' : Nat.beq (st.take n).length n = true := by
          rw [List.length_take, ← hl, ← List.length_take]
          exact hb.1
        have b2 := hb.2
        rw [← ck_sum_ok k2] at b2
        exact ⟨(st.take n).reverse, st.drop n, by simp only [ab_ca, e1, b1', b2, Bool.and_self, cond_true], ck_tys_rev k1, ck_tgs_rev (ck_stk_tgs n hm.2.1), k2⟩
    · cases h
  · cases h
end CkB
