/-! types of values, cells and worlds; calls in a whole world -/
abbrev ty_A : Type := Nat × Int × Int
abbrev ty_F : Type := Nat × Nat × Nat × Nat × Int × Int
abbrev ty_S : Type := Nat × Nat × Nat × List ty_F
/-- 0: an int, 1: a long (least, most); 2: a cell of a sort (1: or null); 3: what lies outside -/
def ty_v (G : Nat → Nat) (a : ty_A) (v : Value) : Prop := match v with
  | .int x => a.1 = 0 ∧ a.2.1 ≤ x.toInt ∧ x.toInt ≤ a.2.2
  | .long x => a.1 = 1 ∧ a.2.1 ≤ x.toInt ∧ x.toInt ≤ a.2.2
  | .ref k => (a.1 = 2 ∧ G k ≠ 0 ∧ (G k : Int) = a.2.1) ∨ (a.1 = 3 ∧ 1000000 ≤ k ∧ a.2.1 ≤ (k : Int) ∧ (k : Int) ≤ a.2.2)
  | .null => a.1 = 2 ∧ a.2.2 = 1
  | _ => False
def ty_le (a b : ty_A) : Bool := Nat.beq a.1 b.1 && (cond (Nat.beq a.1 2) ((decide (a.2.1 = b.2.1) || decide (a.2.1 = 0)) && (!decide (a.2.2 = 1) || decide (b.2.2 = 1))) (decide (b.2.1 ≤ a.2.1) && decide (a.2.2 ≤ b.2.2)))
theorem ty_le_ok {G : Nat → Nat} {a b : ty_A} {v : Value} (h : ty_le a b = true) (hv : ty_v G a v) : ty_v G b v := by
  obtain ⟨a1, a2, a3⟩ := a
  obtain ⟨b1, b2, b3⟩ := b
  unfold ty_le at h
  rw [Bool.and_eq_true] at h
  obtain ⟨h1, h2⟩ := h
  have e := Nat.eq_of_beq_eq_true h1
  dsimp only at e h2
  subst e
  cases hb : Nat.beq a1 2 with
  | true =>
    have e2 := Nat.eq_of_beq_eq_true hb
    subst e2
    rw [hb] at h2
    simp only [cond_true, Bool.and_eq_true, Bool.or_eq_true, decide_eq_true_eq, Bool.not_eq_true', decide_eq_false_iff_not] at h2
    obtain ⟨h3, h4⟩ := h2
    cases v with
    | int x => exact absurd hv.1 (by simp)
    | long x => exact absurd hv.1 (by simp)
    | ref k =>
      rcases hv with ⟨_, g1, g2⟩ | ⟨g0, _⟩
      · refine Or.inl ⟨rfl, g1, ?_⟩
        dsimp only at g2 ⊢
        rcases h3 with h3 | h3
        · omega
        · omega
      · exact absurd g0 (by simp)
    | null =>
      refine ⟨rfl, ?_⟩
      have := hv.2
      dsimp only at this ⊢
      rcases h4 with h4 | h4
      · exact absurd this h4
      · exact h4
    | _ => exact hv.elim
  | false =>
    rw [hb] at h2
    simp only [cond_false, Bool.and_eq_true, decide_eq_true_eq] at h2
    have n2 : a1 ≠ 2 := fun z => by rw [z] at hb; cases hb
    cases v with
    | int x => exact ⟨hv.1, by have := hv.2.1; dsimp only at this ⊢; omega, by have := hv.2.2; dsimp only at this ⊢; omega⟩
    | long x => exact ⟨hv.1, by have := hv.2.1; dsimp only at this ⊢; omega, by have := hv.2.2; dsimp only at this ⊢; omega⟩
    | ref k =>
      rcases hv with ⟨g0, _⟩ | ⟨g0, g1, g2, g3⟩
      · exact absurd g0 n2
      · exact Or.inr ⟨g0, g1, by dsimp only at g2 ⊢; omega, by dsimp only at g3 ⊢; omega⟩
    | null => exact absurd hv.1 n2
    | _ => exact hv.elim
def ty_fa (q : ty_F) : ty_A := (q.1, q.2.2.2.2.1, q.2.2.2.2.2)
def ty_rw (sg : List ty_F) (f : Nat → Int32) : Prop := ∀ q ∈ sg, ∀ i : Nat, q.1 ≤ i → i < q.2.1 → i % q.2.2.1 = q.2.2.2.1 → q.2.2.2.2.1 ≤ (f i).toInt ∧ (f i).toInt ≤ q.2.2.2.2.2
/-- 0: an object; 1: a row of ints (of its length), 4: of any length up to that; 2: of longs; 3: of references -/
def ty_c (G : Nat → Nat) (S : ty_S) (c : va_E) : Prop := match c with
  | .inr (ci, fs) => S.1 = 0 ∧ ci = S.2.1 ∧ fs.length = S.2.2.2.length ∧ ∀ (k : Nat) (q : ty_F), S.2.2.2[k]? = some q → ∃ v, fs[k]? = some v ∧ ty_v G (ty_fa q) v
  | .inl (t, n, .inl f) => (S.1 = 1 ∧ t = S.2.1 ∧ n = S.2.2.1 ∧ ty_rw S.2.2.2 f) ∨ (S.1 = 4 ∧ t = S.2.1 ∧ n ≤ S.2.2.1)
  | .inl (t, n, .inr (.inl _)) => S.1 = 2 ∧ t = 2 ∧ n = S.2.2.1
  | .inl (t, n, .inr (.inr (.inr (.inr f)))) => S.1 = 3 ∧ t = S.2.1 ∧ n = S.2.2.1 ∧ (∀ i k, f i = some k → G k ≠ 0 ∧ ∀ q ∈ S.2.2.2, ((G k : Nat) : Int) = q.2.2.2.2.1) ∧ ∀ q ∈ S.2.2.2, q.1 = 1 → ∀ i, i < n → f i ≠ none
  | _ => False
def ty_w (sp : Nat → ty_S) (G : Nat → Nat) (w : ab_W) : Prop := (∀ (k : Nat) (c : va_E), w[k]? = some c → ty_c G (sp (G k)) c) ∧ (∀ k, G k ≠ 0 → k < w.length) ∧ w.length < 10000
theorem ty_w_at {sp : Nat → ty_S} {G : Nat → Nat} {w : ab_W} (h : ty_w sp G w) {k : Nat} (hk : G k ≠ 0) : ∃ c, w[k]? = some c ∧ ty_c G (sp (G k)) c := ⟨_, List.getElem?_eq_getElem (h.2.1 k hk), h.1 k _ (List.getElem?_eq_getElem (h.2.1 k hk))⟩
theorem ty_w_set {sp : Nat → ty_S} {G : Nat → Nat} {w : ab_W} (h : ty_w sp G w) {k : Nat} {c : va_E} (hc : ty_c G (sp (G k)) c) : ty_w sp G (w.set k c) := by
  refine ⟨fun j d hj => ?_, fun j hj => by rw [List.length_set]; exact h.2.1 j hj, by rw [List.length_set]; exact h.2.2⟩
  rw [List.getElem?_set] at hj
  by_cases e : k = j
  · rw [if_pos e] at hj
    split at hj
    · cases hj
      rw [← e]
      exact hc
    · cases hj
  · rw [if_neg e] at hj
    exact h.1 j d hj
/-- a renaming that leaves a typed world as it is -/
def ty_id (G : Nat → Nat) (p : Nat → Nat) : Prop := (∀ k, G k ≠ 0 → p k = k) ∧ ∀ k, 1000000 ≤ k → p k = k
theorem ty_id_v {G : Nat → Nat} {p : Nat → Nat} (hp : ty_id G p) {a : ty_A} {v : Value} (h : ty_v G a v) : ab_rv p v = v := by
  cases v with
  | ref k =>
    rcases h with ⟨_, h, _⟩ | ⟨_, h, _⟩
    · show Value.ref (p k) = _
      rw [hp.1 k h]
    · show Value.ref (p k) = _
      rw [hp.2 k h]
  | _ => rfl
theorem ty_id_c {G : Nat → Nat} {p : Nat → Nat} (hp : ty_id G p) {S : ty_S} {c : va_E} (h : ty_c G S c) : ab_re p id c = c := by
  match c, h with
  | .inr (ci, fs), h =>
    obtain ⟨_, _, hl, hf⟩ := h
    show Sum.inr (ci, fs.map (ab_rv p)) = _
    congr 2
    apply List.ext_getElem?
    intro k
    rw [List.getElem?_map]
    cases hk : fs[k]? with
    | none => rfl
    | some v =>
      have hlt : k < S.2.2.2.length := by
        have := (List.getElem?_eq_some_iff.mp hk).1
        omega
      obtain ⟨v', e1, e2⟩ := hf k _ (List.getElem?_eq_getElem hlt)
      rw [hk] at e1
      cases e1
      show some (ab_rv p v) = some v
      rw [ty_id_v hp e2]
  | .inl (t, n, .inl f), _ => rfl
  | .inl (t, n, .inr (.inl f)), _ => rfl
  | .inl (t, n, .inr (.inr (.inl f))), h => exact h.elim
  | .inl (t, n, .inr (.inr (.inr (.inl f)))), h => exact h.elim
  | .inl (t, n, .inr (.inr (.inr (.inr f)))), h =>
    show Sum.inl (t, n, Sum.inr (Sum.inr (Sum.inr (Sum.inr (fun i => (f i).map p))))) = _
    congr 7
    funext i
    cases hi : f i with
    | none => rfl
    | some k =>
      show some (p k) = some k
      rw [hp.1 k (h.2.2.2.1 i k hi).1]
/-- a call, in whatever world of its own the callee is walked -/
def ab_cl (C : Nat → List Value → ab_W → ab_O → Prop) (j : Nat) (as : List Value) (w : ab_W) (Q : Option Value → ab_W → Nat → Nat → Prop) : Prop := ∃ (is : List Nat) (as' : List Value) (wc : ab_W) (v : Option Value) (w1 : ab_W) (mc ms : Nat), wc.length < 400000 ∧ is.Nodup ∧ as = as'.map (ab_rv (ab_pi is w.length)) ∧ is.map (fun i => w[i]?) = wc.map (fun e => some (ab_re (ab_pi is w.length) id e)) ∧ mc < 100000 ∧ C j as' wc (v, w1, mc, ms) ∧ Q (v.map (ab_rv (ab_pi is w.length))) (ab_put is wc.length w w1 (ab_pi is w.length)) mc ms
section AbCl
variable {ro : ab_R} {C : Nat → List Value → ab_W → ab_O → Prop} {own : Nat} {ini : Bool} {ret : Option FieldType} {code : ab_C} {Q : ab_O → Prop}
theorem ax_cl {pc a b t j : Nat} {L : ab_L} {st as r : List Value} {w : ab_W} {i : Instr} {P : Option Value → ab_W → Nat → Nat → Prop} (hc : code pc = some (i, t)) (h : ab_ca own i st w = some (j, as, r)) (hC : ab_cl C j as w P) (k : ∀ v w1 mc ms, P v w1 mc ms → ab_wp ro C own ini ret code Q (pc + 3, L, v.toList ++ r, w1, a + mc, b + ms)) : ab_wp ro C own ini ret code Q (pc, L, st, w, a, b) := by
  obtain ⟨is, as', wc, v, w1, mc, ms, h1, h2, h3, h4, h5, h6, h7⟩ := hC
  exact ax_call (P := fun o => o = (v, w1, mc, ms)) is hc h ⟨_, h6, rfl⟩ h3 h4 h2 h1 (fun v' w1' mc' ms' e => by cases e; exact ⟨h5, k _ _ _ _ h7⟩)
end AbCl
theorem ab_pi_range {n k : Nat} (h : k < n) : ab_pi (List.range n) n k = k := by
  unfold ab_pi
  rw [List.length_range, if_pos h]
  simp [List.getD, h]
theorem ab_pi_far {n k : Nat} (hn : n < 500000) (h : 1000000 ≤ k) : ab_pi (List.range n) n k = k := by
  unfold ab_pi
  rw [List.length_range, if_neg (by omega), if_neg (by omega), if_neg (by omega), if_neg (by omega)]
theorem ty_id_pi {sp : Nat → ty_S} {G : Nat → Nat} {w : ab_W} (h : ty_w sp G w) : ty_id G (ab_pi (List.range w.length) w.length) := ⟨fun k hk => ab_pi_range (h.2.1 k hk), fun k hk => ab_pi_far (by have := h.2.2; omega) hk⟩
theorem ab_ix_range {n k : Nat} (h : k < n) : ab_ix (List.range n) k 0 = some k := by
  cases e : ab_ix (List.range n) k 0 with
  | none => exact absurd (List.mem_range.mpr h) (ab_ix_none e)
  | some i =>
    obtain ⟨j, h1, h2⟩ := ab_ix_some e
    have hj : j < n := by
      have := (List.getElem?_eq_some_iff.mp h2).1
      rwa [List.length_range] at this
    rw [List.getElem?_range hj] at h2
    cases h2
    rw [h1, Nat.zero_add]
theorem ty_get_id {sp : Nat → ty_S} {G : Nat → Nat} {w : ab_W} (h : ty_w sp G w) {p : Nat → Nat} (hp : ty_id G p) {k : Nat} {c : va_E} (hk : w[k]? = some c) : ab_re p id c = c := ty_id_c hp (h.1 k c hk)
theorem ty_map_id {sp : Nat → ty_S} {G : Nat → Nat} {w : ab_W} (h : ty_w sp G w) {p : Nat → Nat} (hp : ty_id G p) : (List.range w.length).map (fun i => w[i]?) = w.map (fun e => some (ab_re p id e)) := by
  apply List.ext_getElem?
  intro k
  rw [List.getElem?_map, List.getElem?_map]
  by_cases hk : k < w.length
  · rw [List.getElem?_range hk, List.getElem?_eq_getElem hk]
    show some (w[k]?) = some (some (ab_re p id w[k]))
    rw [ty_get_id h hp (List.getElem?_eq_getElem hk), List.getElem?_eq_getElem hk]
  · rw [List.getElem?_eq_none (by rw [List.length_range]; omega), List.getElem?_eq_none (by omega)]
    rfl
theorem ty_put_id {sp : Nat → ty_S} {G : Nat → Nat} {w w1 : ab_W} (h : ty_w sp G w1) {p : Nat → Nat} (hp : ty_id G p) (hl : w1.length = w.length) : ab_put (List.range w.length) w.length w w1 p = w1 := by
  unfold ab_put
  rw [List.drop_eq_nil_of_le (by omega), List.map_nil, List.append_nil]
  apply List.ext_getElem?
  intro k
  rw [ab_mi_get]
  by_cases hk : k < w.length
  · have hk1 : k < w1.length := by omega
    rw [List.getElem?_eq_getElem hk, List.getElem?_eq_getElem hk1, Option.map_some, Nat.zero_add, ab_ix_range hk]
    dsimp only
    rw [List.getElem?_eq_getElem hk1]
    dsimp only
    rw [ty_get_id h hp (List.getElem?_eq_getElem hk1)]
  · rw [List.getElem?_eq_none (by omega), List.getElem?_eq_none (by omega)]
    rfl
/-- a call of a method that is walked in the whole world -/
theorem ab_cl_id {sp : Nat → ty_S} {G : Nat → Nat} {C : Nat → List Value → ab_W → ab_O → Prop} {j : Nat} {as : List Value} {w w1 : ab_W} {v : Option Value} {Q : Option Value → ab_W → Nat → Nat → Prop} (hw : ty_w sp G w) (has : ∀ x ∈ as, ∃ a, ty_v G a x) (hC : C j as w (v, w1, 0, 0)) (hw1 : ty_w sp G w1) (hl : w1.length = w.length) (hv : ∀ x, v = some x → ∃ a, ty_v G a x) (hQ : Q v w1 0 0) : ab_cl C j as w Q := by
  have hp := ty_id_pi hw
  refine ⟨List.range w.length, as, w, v, w1, 0, 0, by have := hw.2.2; omega, List.nodup_range, ?_, ty_map_id hw hp, by decide, hC, ?_⟩
  · apply List.ext_getElem?
    intro k
    rw [List.getElem?_map]
    cases hk : as[k]? with
    | none => rfl
    | some x =>
      obtain ⟨a, ha⟩ := has x (List.mem_of_getElem? hk)
      show some x = some (ab_rv _ x)
      rw [ty_id_v hp ha]
  · rw [ty_put_id hw1 hp hl]
    have : v.map (ab_rv (ab_pi (List.range w.length) w.length)) = v := by
      cases v with
      | none => rfl
      | some x =>
        obtain ⟨a, ha⟩ := hv x rfl
        show some (ab_rv _ x) = some x
        rw [ty_id_v hp ha]
    rw [this]
    exact hQ
