/-! runs that have made cells already; a text trimmed, told -/
set_option maxHeartbeats 4000000 in
theorem ab_nx_sh {ro : ab_R} {own : Nat} {ini : Bool} (i : Instr) (tgt pc : Nat) (L : ab_L) (st : List Value) (w : ab_W) (a b : Nat) : ab_nx ro own ini i tgt pc L st w a b = (ab_nx ro own ini i tgt pc L st w 0 0).map (fun x => (x.1, x.2.1, x.2.2.1, x.2.2.2.1, x.2.2.2.2.1, a + x.2.2.2.2.2.1, b + x.2.2.2.2.2.2)) := by
  cases i <;> simp only [ab_nx, Bool.cond_eq_ite] <;> (repeat' split) <;> first
    | rfl
    | simp_all
theorem ab_br_sh (i : Instr) (tgt pc : Nat) (L : ab_L) (st : List Value) (w : ab_W) (a b : Nat) : ab_br i tgt pc L st w a b = (ab_br i tgt pc L st w 0 0).map (fun x => (x.1, (x.2.1.1, x.2.1.2.1, x.2.1.2.2.1, x.2.1.2.2.2.1, a, b), (x.2.2.1, x.2.2.2.1, x.2.2.2.2.1, x.2.2.2.2.2.1, a, b))) := by
  unfold ab_br
  (repeat' split) <;> first
    | rfl
    | simp_all
theorem ab_X_sh {ro : ab_R} {C : Nat → List Value → ab_W → ab_O → Prop} {own : Nat} {ini : Bool} {ret : Option FieldType} {code : ab_C} {v : Option Value} {w1 : ab_W} {mc ms : Nat} (a0 b0 : Nat) : ∀ (k pc : Nat) (L : ab_L) (st : List Value) (w : ab_W) (a b : Nat), ab_X ro C own ini ret code (v, w1, mc, ms) k (pc, L, st, w, a, b) → ab_X ro C own ini ret code (v, w1, a0 + mc, b0 + ms) k (pc, L, st, w, a0 + a, b0 + b) := by
  intro k
  induction k with
  | zero => intro pc L st w a b h; exact h.elim
  | succ k ih =>
    intro pc L st w a b h
    obtain ⟨i, t, hc, h⟩ := h
    refine ⟨i, t, hc, ?_⟩
    rcases h with ⟨ps, ⟨pc', L', st', w', a', b'⟩, h1, h2, h3⟩ | ⟨q, s1, s2, h1, h2⟩ | ⟨ps, u, h1, h2, h3⟩ | ⟨j, as, r, h1, is, as', wc, w2, u, m1, m2, h2, h3, h4, h5, h6, h7⟩
    · refine Or.inl ⟨ps, (pc', L', st', w', a0 + a', b0 + b'), ?_, h2, ih _ _ _ _ _ _ h3⟩
      rw [ab_nx_sh] at h1 ⊢
      cases h0 : ab_nx ro own ini i t pc L st w 0 0 with
      | none => rw [h0] at h1; cases h1
      | some x =>
        rw [h0] at h1
        simp only [Option.map_some, Option.some.injEq, Prod.mk.injEq] at h1 ⊢
        obtain ⟨e1, e2, e3, e4, e5, e6, e7⟩ := h1
        exact ⟨e1, e2, e3, e4, e5, by omega, by omega⟩
    · rw [ab_br_sh] at h1
      cases h0 : ab_br i t pc L st w 0 0 with
      | none => rw [h0] at h1; cases h1
      | some x =>
        rw [h0] at h1
        simp only [Option.map_some, Option.some.injEq] at h1
        cases h1
        refine Or.inr (Or.inl ⟨_, _, _, by rw [ab_br_sh, h0]; rfl, ?_⟩)
        rcases h2 with ⟨z, h2⟩ | ⟨z, h2⟩
        · exact Or.inl ⟨z, ih _ _ _ _ _ _ h2⟩
        · exact Or.inr ⟨z, ih _ _ _ _ _ _ h2⟩
    · cases h3
      exact Or.inr (Or.inr (Or.inl ⟨ps, _, h1, h2, rfl⟩))
    · refine Or.inr (Or.inr (Or.inr ⟨j, as, r, h1, is, as', wc, w2, u, m1, m2, h2, h3, h4, h5, h6, ?_⟩))
      have h8 := ih _ _ _ _ _ _ h7
      rw [← Nat.add_assoc, ← Nat.add_assoc] at h8
      exact h8
theorem ax_shift {ro : ab_R} {C : Nat → List Value → ab_W → ab_O → Prop} {own : Nat} {ini : Bool} {ret : Option FieldType} {code : ab_C} {Q0 Q : ab_O → Prop} {pc : Nat} {L : ab_L} {st : List Value} {w : ab_W} {a b : Nat} (h : ab_wp ro C own ini ret code Q0 (pc, L, st, w, 0, 0)) (hQ : ∀ v w1 mc ms, Q0 (v, w1, mc, ms) → Q (v, w1, a + mc, b + ms)) : ab_wp ro C own ini ret code Q (pc, L, st, w, a, b) := by
  obtain ⟨⟨v, w1, mc, ms⟩, k, hX, hq⟩ := h
  exact ⟨_, k, ab_X_sh a b k pc L st w 0 0 hX, hQ _ _ _ _ hq⟩
theorem ab_put_new {is : List Nat} {w wc news : ab_W} {p : Nat → Nat} (h4 : is.map (fun i => w[i]?) = wc.map (fun e => some (ab_re p id e))) : ab_put is wc.length w (wc ++ news) p = w ++ news.map (ab_re p id) := by
  unfold ab_put
  rw [List.drop_left]
  congr 1
  apply List.ext_getElem?
  intro k
  rw [ab_mi_get, Nat.zero_add]
  cases hk : w[k]? with
  | none => rfl
  | some e =>
    simp only [Option.map_some, Option.some.injEq]
    cases hix : ab_ix is k 0 with
    | none => rfl
    | some i0 =>
      obtain ⟨j0, e0, hj0⟩ := ab_ix_some hix
      rw [Nat.zero_add] at e0
      subst e0
      have h := congrArg (fun l => l[i0]?) h4
      simp only [List.getElem?_map, hj0, Option.map_some] at h
      cases hx : wc[i0]? with
      | none => rw [hx] at h; cases h
      | some x =>
        rw [hx] at h
        simp only [Option.map_some, Option.some.injEq] at h
        rw [hk] at h
        cases h
        have hlt := (List.getElem?_eq_some_iff.mp hx).1
        dsimp only
        rw [List.getElem?_append_left hlt, hx]
theorem ck_bmod {z : Int} (h1 : -2147483648 ≤ z) (h2 : z ≤ 2147483647) : z.bmod (2 ^ 32) = z := by
  unfold Int.bmod
  dsimp only
  split <;> omega
abbrev tr_u (u : Int32) : Int32 := if (0 : Int32) < u then u else 0
abbrev tr_s (s : Int32) : Int32 := tr_u s * 5
theorem tr_ub {u : Int32} (h0 : 0 ≤ u.toInt) (h1 : u.toInt ≤ 436) : ¬ tr_u u < 0 ∧ (tr_u u).toNatClampNeg ≤ 436 ∧ (tr_u u).toInt = u.toInt := by
  have hz : (0 : Int32).toInt = 0 := rfl
  have e : (tr_u u).toInt = u.toInt := by
    unfold tr_u
    by_cases z : (0 : Int32) < u
    · rw [if_pos z]
    · rw [if_neg z]
      rw [Int32.lt_iff_toInt_lt, hz] at z
      omega
  have e2 : (tr_u u).toNatClampNeg = (tr_u u).toInt.toNat := rfl
  refine ⟨?_, by omega, e⟩
  rw [Int32.lt_iff_toInt_lt, hz]
  omega
theorem tr_sb {s : Int32} (h0 : 0 ≤ s.toInt) (h1 : s.toInt ≤ 12) : ¬ tr_s s < 0 ∧ (tr_s s).toNatClampNeg ≤ 60 := by
  obtain ⟨a1, a2, a3⟩ := tr_ub h0 (by omega)
  have hz : (0 : Int32).toInt = 0 := rfl
  have e : (tr_s s).toInt = s.toInt * 5 := by
    unfold tr_s
    rw [Int32.toInt_mul, a3, show (5 : Int32).toInt = 5 from rfl, ck_bmod (by omega) (by omega)]
  have e2 : (tr_s s).toNatClampNeg = (tr_s s).toInt.toNat := rfl
  refine ⟨?_, by omega⟩
  rw [Int32.lt_iff_toInt_lt, hz]
  omega
theorem tr_init {ro : ab_R} {d : Nat} (x0 x1 x2 u s : Int32) (hu : ¬ tr_u u < 0 ∧ (tr_u u).toNatClampNeg ≤ 436) (hs : ¬ tr_s s < 0 ∧ (tr_s s).toNatClampNeg ≤ 60) : ab_ct ro (d + 1) 73 [.ref 0, .int u, .int s] [.inr (7, [.null, .null, .int x0, .int x1, .int x2])] (fun o => o = (none, [.inr (7, [.ref 1, .ref 2, .int x0, .int x1, .int x2]), .inl (0, (tr_u u).toNatClampNeg, .inl (fun _ => 0)), .inl (0, (tr_s s).toNatClampNeg, .inl (fun _ => 0))], 2, 0 + (tr_u u).toNatClampNeg + (tr_s s).toNatClampNeg)) := by
  refine ab_ct_of (by decide) rfl ?_
  change ab_wp ro _ 7 true none ab_k_X7_init _ (0, [some (.ref 0), some (.int u), some (.int s)], [], [.inr (7, [.null, .null, .int x0, .int x1, .int x2])], 0, 0)
  refine ax_go 16 (y := (28, [some (.ref 0), some (.int u), some (.int s)], [], [.inr (7, [.ref 1, .ref 2, .int x0, .int x1, .int x2]), .inl (0, (tr_u u).toNatClampNeg, .inl (fun _ => 0)), .inl (0, (tr_s s).toNatClampNeg, .inl (fun _ => 0))], 2, 0 + (tr_u u).toNatClampNeg + (tr_s s).toNatClampNeg)) rfl ?_ ?_
  · exact ⟨hu.1, Nat.le_trans hu.2 (by decide), hs.1, Nat.le_trans hs.2 (by decide), trivial⟩
  exact ax_ret rfl rfl trivial rfl
theorem tr_len {n : Nat} (h : n ≤ 436) : ¬ Int32.ofNat n < 0 ∧ (Int32.ofNat n).toNatClampNeg = n := by
  have e : (Int32.ofNat n).toInt = (n : Int) := Int32.toInt_ofNat_of_lt (by omega)
  have e2 : (Int32.ofNat n).toNatClampNeg = (Int32.ofNat n).toInt.toNat := rfl
  refine ⟨?_, by omega⟩
  rw [Int32.lt_iff_toInt_lt, show (0 : Int32).toInt = 0 from rfl]
  omega
theorem tr_trimv {ro : ab_R} {d : Nat} (u s ov : Int32) (f g : Nat → Int32) (hu : ¬ tr_u u < 0 ∧ (tr_u u).toNatClampNeg ≤ 436) (hs : ¬ tr_s s < 0 ∧ (tr_s s).toNatClampNeg ≤ 60) : ab_ct ro (d + 2) 78 [.ref 0] [.inr (7, [.ref 1, .ref 2, .int u, .int s, .int ov]), .inl (0, 436, .inl f), .inl (0, 60, .inl g)] (fun o => o = (some (.ref 3), [.inr (7, [.ref 1, .ref 2, .int u, .int s, .int ov]), .inl (0, 436, .inl f), .inl (0, 60, .inl g)] ++ [.inr (7, [.ref 4, .ref 5, .int u, .int s, .int ov]), .inl (0, (tr_u u).toNatClampNeg, .inl (va_cpy f (fun _ => 0) 0 0 (Int32.ofNat (tr_u u).toNatClampNeg).toNatClampNeg)), .inl (0, (tr_s s).toNatClampNeg, .inl (va_cpy g (fun _ => 0) 0 0 (Int32.ofNat (tr_s s).toNatClampNeg).toNatClampNeg))], 3, 5 + (0 + (tr_u u).toNatClampNeg + (tr_s s).toNatClampNeg))) := by
  refine ab_ct_of (by decide) rfl ?_
  change ab_wp ro _ 7 false _ ab_k_X7_trimmed _ (0, [some (.ref 0), none], [], [.inr (7, [.ref 1, .ref 2, .int u, .int s, .int ov]), .inl (0, 436, .inl f), .inl (0, 60, .inl g)], 0, 0)
  refine ax_go 6 (y := (12, [some (.ref 0), none], [.int s, .int u, .ref 3, .ref 3], [.inr (7, [.ref 1, .ref 2, .int u, .int s, .int ov]), .inl (0, 436, .inl f), .inl (0, 60, .inl g), .inr (7, [.null, .null, .int 0, .int 0, .int 0])], 1, 5)) rfl trivial ?_
  refine ax_call [3] rfl rfl (tr_init (d := d) 0 0 0 u s hu hs) rfl rfl (by decide) (Nat.le_of_ble_eq_true rfl) (fun v w1 mc ms hq => ?_)
  cases hq
  refine ⟨by decide, ?_⟩
  change ab_wp ro _ 7 false _ ab_k_X7_trimmed _ (15, [some (.ref 0), none], [.ref 3], [.inr (7, [.ref 1, .ref 2, .int u, .int s, .int ov]), .inl (0, 436, .inl f), .inl (0, 60, .inl g), .inr (7, [.ref 4, .ref 5, .int 0, .int 0, .int 0]), .inl (0, (tr_u u).toNatClampNeg, .inl (fun _ => 0)), .inl (0, (tr_s s).toNatClampNeg, .inl (fun _ => 0))], 3, 5 + (0 + (tr_u u).toNatClampNeg + (tr_s s).toNatClampNeg))
  obtain ⟨l1, l2⟩ := tr_len hu.2
  obtain ⟨l3, l4⟩ := tr_len (Nat.le_trans hs.2 (by decide))
  refine ax_go 11 (y := (34, [some (.ref 0), some (.ref 3)], [], [.inr (7, [.ref 1, .ref 2, .int u, .int s, .int ov]), .inl (0, 436, .inl f), .inl (0, 60, .inl g), .inr (7, [.ref 4, .ref 5, .int 0, .int 0, .int 0]), .inl (0, (tr_u u).toNatClampNeg, .inl (va_cpy f (fun _ => 0) 0 0 (Int32.ofNat (tr_u u).toNatClampNeg).toNatClampNeg)), .inl (0, (tr_s s).toNatClampNeg, .inl (fun _ => 0))], 3, 5 + (0 + (tr_u u).toNatClampNeg + (tr_s s).toNatClampNeg))) rfl ?_ ?_
  · exact ⟨by decide, by decide, l1, by rw [l2]; exact Nat.le_trans (Nat.le_of_eq (Nat.zero_add _)) hu.2, by rw [l2]; exact Nat.le_of_eq (Nat.zero_add _), trivial⟩
  refine ax_go 10 (y := (52, [some (.ref 0), some (.ref 3)], [], [.inr (7, [.ref 1, .ref 2, .int u, .int s, .int ov]), .inl (0, 436, .inl f), .inl (0, 60, .inl g), .inr (7, [.ref 4, .ref 5, .int 0, .int 0, .int 0]), .inl (0, (tr_u u).toNatClampNeg, .inl (va_cpy f (fun _ => 0) 0 0 (Int32.ofNat (tr_u u).toNatClampNeg).toNatClampNeg)), .inl (0, (tr_s s).toNatClampNeg, .inl (va_cpy g (fun _ => 0) 0 0 (Int32.ofNat (tr_s s).toNatClampNeg).toNatClampNeg))], 3, 5 + (0 + (tr_u u).toNatClampNeg + (tr_s s).toNatClampNeg))) rfl ?_ ?_
  · exact ⟨by decide, by decide, l3, by rw [l4]; exact Nat.le_trans (Nat.le_of_eq (Nat.zero_add _)) hs.2, by rw [l4]; exact Nat.le_of_eq (Nat.zero_add _), trivial⟩
  refine ax_go 13 (y := (77, [some (.ref 0), some (.ref 3)], [.ref 3], [.inr (7, [.ref 1, .ref 2, .int u, .int s, .int ov]), .inl (0, 436, .inl f), .inl (0, 60, .inl g), .inr (7, [.ref 4, .ref 5, .int u, .int s, .int ov]), .inl (0, (tr_u u).toNatClampNeg, .inl (va_cpy f (fun _ => 0) 0 0 (Int32.ofNat (tr_u u).toNatClampNeg).toNatClampNeg)), .inl (0, (tr_s s).toNatClampNeg, .inl (va_cpy g (fun _ => 0) 0 0 (Int32.ofNat (tr_s s).toNatClampNeg).toNatClampNeg))], 3, 5 + (0 + (tr_u u).toNatClampNeg + (tr_s s).toNatClampNeg))) rfl trivial ?_
  exact ax_ret rfl rfl trivial rfl
