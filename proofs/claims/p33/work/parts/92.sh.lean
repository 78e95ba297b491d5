/-! runs that have made cells already; a world with new cells -/
set_option maxHeartbeats 4000000 in
theorem ab_nx_sh {ro : ab_R} {own : Nat} {ini : Bool} (i : Instr) (tgt pc : Nat) (L : ab_L) (st : List Value) (w : ab_W) (a b : Nat) : ab_nx ro own ini i tgt pc L st w a b = (ab_nx ro own ini i tgt pc L st w 0 0).map (fun x => (x.1, x.2.1, x.2.2.1, x.2.2.2.1, x.2.2.2.2.1, a + x.2.2.2.2.2.1, b + x.2.2.2.2.2.2)) := by
  cases i <;> simp only [ab_nx, Bool.cond_eq_ite] <;> (repeat' split) <;> first
    | rfl
    | simp_all
theorem ab_br_sh (i : Instr) (tgt pc : Nat) (L : ab_L) (st : List Value) (w : ab_W) (a b : Nat) : ab_br i tgt pc L st w a b = (ab_br i tgt pc L st w 0 0).map (fun x => (x.1, (x.2.1.1, x.2.1.2.1, x.2.1.2.2.1, x.2.1.2.2.2.1, a, b), (x.2.2.1, x.2.2.2.1, x.2.2.2.2.1, x.2.2.2.2.2.1, a, b))) := by
  unfold ab_br
  (repeat' split) <;> first
    | rfl
    | simp_all
theorem ab_X_sh {ro : ab_R} {C : Nat → List Value → ab_W → ab_O → Prop} {own : Nat} {ini : Bool} {ret : Option FieldType} {code : ab_C} {v : Option Value} {w1 : ab_W} {mc ms : Nat} (a0 b0 : Nat) : ∀ (k pc : Nat) (L : ab_L) (st : List Value) (w : ab_W) (a b : Nat), ab_X ro C own ini ret code (v, w1, mc, ms) k (pc, L, st, w, a, b) → ab_X ro C own ini ret code (v, w1, a0 + mc, b0 + ms) k (pc, L, st, w, a0 + a, b0 + b) := by
  intro k
  induction k with
  | zero => intro pc L st w a b h; exact h.elim
  | succ k ih =>
    intro pc L st w a b h
    obtain ⟨i, t, hc, h⟩ := h
    refine ⟨i, t, hc, ?_⟩
    rcases h with ⟨ps, ⟨pc', L', st', w', a', b'⟩, h1, h2, h3⟩ | ⟨q, s1, s2, h1, h2⟩ | ⟨ps, u, h1, h2, h3⟩ | ⟨j, as, r, h1, is, as', wc, w2, u, m1, m2, h2, h3, h4, h5, h6, h7⟩
    · refine Or.inl ⟨ps, (pc', L', st', w', a0 + a', b0 + b'), ?_, h2, ih _ _ _ _ _ _ h3⟩
      rw [ab_nx_sh] at h1 ⊢
      cases h0 : ab_nx ro own ini i t pc L st w 0 0 with
      | none => rw [h0] at h1; cases h1
      | some x =>
        rw [h0] at h1
        simp only [Option.map_some, Option.some.injEq, Prod.mk.injEq] at h1 ⊢
        obtain ⟨e1, e2, e3, e4, e5, e6, e7⟩ := h1
        exact ⟨e1, e2, e3, e4, e5, by omega, by omega⟩
    · rw [ab_br_sh] at h1
      cases h0 : ab_br i t pc L st w 0 0 with
      | none => rw [h0] at h1; cases h1
      | some x =>
        rw [h0] at h1
        simp only [Option.map_some, Option.some.injEq] at h1
        cases h1
        refine Or.inr (Or.inl ⟨_, _, _, by rw [ab_br_sh, h0]; rfl, ?_⟩)
        rcases h2 with ⟨z, h2⟩ | ⟨z, h2⟩
        · exact Or.inl ⟨z, ih _ _ _ _ _ _ h2⟩
        · exact Or.inr ⟨z, ih _ _ _ _ _ _ h2⟩
    · cases h3
      exact Or.inr (Or.inr (Or.inl ⟨ps, _, h1, h2, rfl⟩))
    · refine Or.inr (Or.inr (Or.inr ⟨j, as, r, h1, is, as', wc, w2, u, m1, m2, h2, h3, h4, h5, h6, ?_⟩))
      have h8 := ih _ _ _ _ _ _ h7
      rw [← Nat.add_assoc, ← Nat.add_assoc] at h8
      exact h8
theorem ax_shift {ro : ab_R} {C : Nat → List Value → ab_W → ab_O → Prop} {own : Nat} {ini : Bool} {ret : Option FieldType} {code : ab_C} {Q0 Q : ab_O → Prop} {pc : Nat} {L : ab_L} {st : List Value} {w : ab_W} {a b : Nat} (h : ab_wp ro C own ini ret code Q0 (pc, L, st, w, 0, 0)) (hQ : ∀ v w1 mc ms, Q0 (v, w1, mc, ms) → Q (v, w1, a + mc, b + ms)) : ab_wp ro C own ini ret code Q (pc, L, st, w, a, b) := by
  obtain ⟨⟨v, w1, mc, ms⟩, k, hX, hq⟩ := h
  exact ⟨_, k, ab_X_sh a b k pc L st w 0 0 hX, hQ _ _ _ _ hq⟩
theorem ab_put_new {is : List Nat} {w wc news : ab_W} {p : Nat → Nat} (h4 : is.map (fun i => w[i]?) = wc.map (fun e => some (ab_re p id e))) : ab_put is wc.length w (wc ++ news) p = w ++ news.map (ab_re p id) := by
  unfold ab_put
  rw [List.drop_left]
  congr 1
  apply List.ext_getElem?
  intro k
  rw [ab_mi_get, Nat.zero_add]
  cases hk : w[k]? with
  | none => rfl
  | some e =>
    simp only [Option.map_some, Option.some.injEq]
    cases hix : ab_ix is k 0 with
    | none => rfl
    | some i0 =>
      obtain ⟨j0, e0, hj0⟩ := ab_ix_some hix
      rw [Nat.zero_add] at e0
      subst e0
      have h := congrArg (fun l => l[i0]?) h4
      simp only [List.getElem?_map, hj0, Option.map_some] at h
      cases hx : wc[i0]? with
      | none => rw [hx] at h; cases h
      | some x =>
        rw [hx] at h
        simp only [Option.map_some, Option.some.injEq] at h
        rw [hk] at h
        cases h
        have hlt := (List.getElem?_eq_some_iff.mp hx).1
        dsimp only
        rw [List.getElem?_append_left hlt, hx]
/-- three new cells: a text, its code, its clauses -/
def ex_G (G : Nat → Nat) (n : Nat) : Nat → Nat := fun k => if k = n then 10 else if k = n + 1 then 27 else if k = n + 2 then 28 else G k
section Ex
variable {G G' : Nat → Nat}
theorem ty_v_ex {a : ty_A} {v : Value} (h : ty_v G a v) (hG : ∀ k, G k ≠ 0 → G' k = G k) : ty_v G' a v := by
  cases v with
  | ref k =>
    rcases h with ⟨h1, h2, h3⟩ | h
    · refine Or.inl ⟨h1, ?_, ?_⟩
      · rw [hG k h2]; exact h2
      · rw [hG k h2]; exact h3
    · exact Or.inr h
  | _ => exact h
theorem ty_c_ex {S : ty_S} {c : va_E} (h : ty_c G S c) (hG : ∀ k, G k ≠ 0 → G' k = G k) : ty_c G' S c := by
  rcases c with ⟨t, n, x⟩ | ⟨ci, fs⟩
  · rcases x with f | f | f | f | f
    · exact h
    · exact h
    · exact h
    · exact h
    · obtain ⟨h1, h2, h3, h4, h5⟩ := h
      refine ⟨h1, h2, h3, fun i k hk => ?_, h5⟩
      obtain ⟨g1, g2⟩ := h4 i k hk
      rw [hG k g1]
      exact ⟨g1, g2⟩
  · obtain ⟨h1, h2, h3, h4⟩ := h
    refine ⟨h1, h2, h3, fun k q hq => ?_⟩
    obtain ⟨v, g1, g2⟩ := h4 k q hq
    exact ⟨v, g1, ty_v_ex g2 hG⟩
theorem ex_old {w : ab_W} (hw : ty_w sp_ G w) : ∀ k, G k ≠ 0 → ex_G G w.length k = G k := by
  intro k hk
  have := hw.2.1 k hk
  unfold ex_G
  rw [if_neg (by omega), if_neg (by omega), if_neg (by omega)]
theorem ty_w_ex {w : ab_W} {u s ov : Int32} {n1 n2 : Nat} {f1 f2 : Nat → Int32} (hw : ty_w sp_ G w) (h1 : n1 ≤ 436) (h2 : n2 ≤ 60) (hl : w.length + 3 < 10000) : ty_w sp_ (ex_G G w.length) (w ++ [.inr (7, [.ref (w.length + 1), .ref (w.length + 2), .int u, .int s, .int ov]), .inl (0, n1, .inl f1), .inl (0, n2, .inl f2)]) := by
  have e0 : ex_G G w.length w.length = 10 := by unfold ex_G; rw [if_pos rfl]
  have e1 : ex_G G w.length (w.length + 1) = 27 := by unfold ex_G; rw [if_neg (by omega), if_pos rfl]
  have e2 : ex_G G w.length (w.length + 2) = 28 := by unfold ex_G; rw [if_neg (by omega), if_neg (by omega), if_pos rfl]
  refine ⟨fun k c hc => ?_, fun k hk => ?_, by rw [List.length_append]; exact hl⟩
  · by_cases z : k < w.length
    · rw [List.getElem?_append_left z] at hc
      have e : ex_G G w.length k = G k := by
        unfold ex_G
        rw [if_neg (by omega), if_neg (by omega), if_neg (by omega)]
      rw [e]
      exact ty_c_ex (hw.1 k c hc) (ex_old hw)
    · rw [List.getElem?_append_right (by omega)] at hc
      obtain ⟨i, rfl⟩ : ∃ i, k = w.length + i := ⟨k - w.length, by omega⟩
      rw [Nat.add_sub_cancel_left] at hc
      match i, hc with
      | 0, hc =>
        cases hc
        rw [Nat.add_zero, e0]
        refine ⟨rfl, rfl, rfl, fun k q hq => ?_⟩
        have t1 : ty_v (ex_G G w.length) (2, 27, 0) (.ref (w.length + 1)) := Or.inl ⟨rfl, by rw [e1]; decide, by rw [e1]; rfl⟩
        have t2 : ty_v (ex_G G w.length) (2, 28, 0) (.ref (w.length + 2)) := Or.inl ⟨rfl, by rw [e2]; decide, by rw [e2]; rfl⟩
        match k, hq with
        | 0, hq => cases hq; exact ⟨_, rfl, t1⟩
        | 1, hq => cases hq; exact ⟨_, rfl, t2⟩
        | 2, hq => cases hq; exact ⟨_, rfl, ck_top_ok u⟩
        | 3, hq => cases hq; exact ⟨_, rfl, ck_top_ok s⟩
        | 4, hq => cases hq; exact ⟨_, rfl, ck_top_ok ov⟩
        | k + 5, hq => cases hq
      | 1, hc =>
        cases hc
        rw [e1]
        exact Or.inr ⟨rfl, rfl, h1⟩
      | 2, hc =>
        cases hc
        rw [e2]
        exact Or.inr ⟨rfl, rfl, h2⟩
      | i + 3, hc => cases hc
  · rw [List.length_append]
    show k < w.length + 3
    by_cases z : k < w.length + 3
    · exact z
    · unfold ex_G at hk
      rw [if_neg (by omega), if_neg (by omega), if_neg (by omega)] at hk
      have := hw.2.1 k hk
      omega
end Ex
