/-! reasoning about runs of the abstract machine, goal first -/
def ab_go (ro : ab_R) (own : Nat) (ini : Bool) (code : ab_C) : Nat → ab_S → Option (List Prop × ab_S)
  | 0, x => some ([], x)
  | n + 1, (pc, L, st, w, a, b) => match code pc with
    | some (i, t) => match ab_nx ro own ini i t pc L st w a b with
      | some (ps, x) => match ab_go ro own ini code n x with
        | some (qs, y) => some (ps ++ qs, y)
        | none => none
      | none => none
    | none => none
def ab_wp (ro : ab_R) (C : Nat → List Value → ab_W → ab_O → Prop) (own : Nat) (ini : Bool) (ret : Option FieldType) (code : ab_C) (Q : ab_O → Prop) (x : ab_S) : Prop := ∃ o k, ab_X ro C own ini ret code o k x ∧ Q o
theorem ab_all_append {ps qs : List Prop} (h : ab_all (ps ++ qs)) : ab_all ps ∧ ab_all qs := by
  induction ps with
  | nil => exact ⟨trivial, h⟩
  | cons p ps ih => exact ⟨⟨h.1, (ih h.2).1⟩, (ih h.2).2⟩
section AbWp
variable {ro : ab_R} {C : Nat → List Value → ab_W → ab_O → Prop} {own : Nat} {ini : Bool} {ret : Option FieldType} {code : ab_C} {Q : ab_O → Prop}
theorem ax_go (n : Nat) {x y : ab_S} {ps : List Prop} (h : ab_go ro own ini code n x = some (ps, y)) (hp : ab_all ps) (k : ab_wp ro C own ini ret code Q y) : ab_wp ro C own ini ret code Q x := by
  induction n generalizing x ps with
  | zero =>
    unfold ab_go at h
    cases h
    exact k
  | succ n ih =>
    obtain ⟨pc, L, st, w, a, b⟩ := x
    unfold ab_go at h
    split at h
    · rename_i i t hc
      split at h
      · rename_i qs z hn
        split at h
        · rename_i rs u hg
          cases h
          obtain ⟨h1, h2⟩ := ab_all_append hp
          obtain ⟨o, k, hX, hQ⟩ := ih hg h2
          exact ⟨o, k + 1, ⟨i, t, hc, Or.inl ⟨qs, z, hn, h1, hX⟩⟩, hQ⟩
        · cases h
      · cases h
    · cases h
theorem ax_br {pc a b t : Nat} {L : ab_L} {st : List Value} {w : ab_W} {i : Instr} {c : Prop} {x y : ab_S} (hc : code pc = some (i, t)) (h : ab_br i t pc L st w a b = some (c, x, y)) (k1 : c → ab_wp ro C own ini ret code Q x) (k2 : ¬ c → ab_wp ro C own ini ret code Q y) : ab_wp ro C own ini ret code Q (pc, L, st, w, a, b) := by
  by_cases z : c
  · obtain ⟨o, k, hX, hQ⟩ := k1 z
    exact ⟨o, k + 1, ⟨i, t, hc, Or.inr (Or.inl ⟨c, x, y, h, Or.inl ⟨z, hX⟩⟩)⟩, hQ⟩
  · obtain ⟨o, k, hX, hQ⟩ := k2 z
    exact ⟨o, k + 1, ⟨i, t, hc, Or.inr (Or.inl ⟨c, x, y, h, Or.inr ⟨z, hX⟩⟩)⟩, hQ⟩
theorem ax_ret {pc a b t : Nat} {L : ab_L} {st : List Value} {w : ab_W} {i : Instr} {ps : List Prop} {v : Option Value} (hc : code pc = some (i, t)) (h : ab_rt ret i st = some (ps, v)) (hp : ab_all ps) (k : Q (v, w, a, b)) : ab_wp ro C own ini ret code Q (pc, L, st, w, a, b) := ⟨_, 1, ⟨i, t, hc, Or.inr (Or.inr (Or.inl ⟨ps, v, h, hp, rfl⟩))⟩, k⟩
theorem ax_call {pc a b t j : Nat} {L : ab_L} {st as r : List Value} {w : ab_W} {i : Instr} (is : List Nat) {as' : List Value} {wc : ab_W} {P : ab_O → Prop} (hc : code pc = some (i, t)) (h : ab_ca own i st w = some (j, as, r)) (hC : ∃ o, C j as' wc o ∧ P o) (h1 : as = as'.map (ab_rv (ab_pi is w.length))) (h2 : is.map (fun i => w[i]?) = wc.map (fun e => some (ab_re (ab_pi is w.length) id e))) (h3 : is.Nodup) (h4 : wc.length < 400000)
    (k : ∀ (v : Option Value) (w1 : ab_W) (mc ms : Nat), P (v, w1, mc, ms) → mc < 100000 ∧ ab_wp ro C own ini ret code Q (pc + 3, L, (v.map (ab_rv (ab_pi is w.length))).toList ++ r, ab_put is wc.length w w1 (ab_pi is w.length), a + mc, b + ms)) : ab_wp ro C own ini ret code Q (pc, L, st, w, a, b) := by
  obtain ⟨⟨v, w1, mc, ms⟩, h5, h6⟩ := hC
  obtain ⟨h7, o, n, hX, hQ⟩ := k v w1 mc ms h6
  exact ⟨o, n + 1, ⟨i, t, hc, Or.inr (Or.inr (Or.inr ⟨j, as, r, h, is, as', wc, w1, v, mc, ms, h5, h1, h2, h3, by omega, hX⟩))⟩, hQ⟩
end AbWp
/-- a method's contract -/
def ab_ct (ro : ab_R) (d j : Nat) (as : List Value) (w : ab_W) (P : ab_O → Prop) : Prop := ∃ o, ab_Ev ro ab_codes d j as w o ∧ P o
theorem ab_ct_of {ro : ab_R} {d j : Nat} {as : List Value} {w : ab_W} {P : ab_O → Prop} (hj : j < 240) (hen : (ab_en (ab_nL j) as).length = ab_nL j) (h : ab_wp ro (ab_Ev ro ab_codes d) (ab_ow j) (ab_ini j) (ab_ret j) (ab_codes j) P (0, ab_en (ab_nL j) as, [], w, 0, 0)) : ab_ct ro (d + 1) j as w P := by
  obtain ⟨o, k, hX, hP⟩ := h
  exact ⟨o, ⟨hj, hen, k, hX⟩, hP⟩
theorem vi {i : Int32} {n : Nat} (h : ¬ (i < 0 ∨ n ≤ i.toNatClampNeg)) : vp_in i n := h
section AbWp2
variable {ro : ab_R} {C : Nat → List Value → ab_W → ab_O → Prop} {own : Nat} {ini : Bool} {ret : Option FieldType} {code : ab_C} {Q : ab_O → Prop}
theorem ax_brT {pc a b t : Nat} {L : ab_L} {st : List Value} {w : ab_W} {i : Instr} {c : Prop} {x y : ab_S} (hc : code pc = some (i, t)) (h : ab_br i t pc L st w a b = some (c, x, y)) (z : c) (k : ab_wp ro C own ini ret code Q x) : ab_wp ro C own ini ret code Q (pc, L, st, w, a, b) := ax_br hc h (fun _ => k) (fun n => absurd z n)
theorem ax_brF {pc a b t : Nat} {L : ab_L} {st : List Value} {w : ab_W} {i : Instr} {c : Prop} {x y : ab_S} (hc : code pc = some (i, t)) (h : ab_br i t pc L st w a b = some (c, x, y)) (z : ¬ c) (k : ab_wp ro C own ini ret code Q y) : ab_wp ro C own ini ret code Q (pc, L, st, w, a, b) := ax_br hc h (fun n => absurd n z) (fun _ => k)
/-- a switch, its target told -/
theorem ax_sw (tgt : Nat) {pc a b t pc' : Nat} {L : ab_L} {st : List Value} {w : ab_W} {i : Instr} {ps : List Prop} {x : ab_L × List Value × ab_W × Nat × Nat} (hc : code pc = some (i, t)) (h : ab_nx ro own ini i t pc L st w a b = some (ps, pc', x)) (e : pc' = tgt) (hp : ab_all ps) (k : ab_wp ro C own ini ret code Q (tgt, x)) : ab_wp ro C own ini ret code Q (pc, L, st, w, a, b) := by
  subst e
  obtain ⟨o, n, hX, hQ⟩ := k
  exact ⟨o, n + 1, ⟨i, t, hc, Or.inl ⟨ps, (pc', x), h, hp, hX⟩⟩, hQ⟩
end AbWp2
theorem ab_ts_out {pc : Nat} {d lo hi : Int} {offs : Array Int} {x : Int32} (h : x.toInt < lo ∨ hi < x.toInt) : ab_ts pc d lo hi offs x = ((pc : Int) + d).toNat := by unfold ab_ts; rw [if_pos h]
section AbLoop
variable {ro : ab_R} {C : Nat → List Value → ab_W → ab_O → Prop} {own : Nat} {ini : Bool} {ret : Option FieldType} {code : ab_C} {Q : ab_O → Prop}
/-- a loop, by a measure -/
theorem ax_loop {α : Type} (S : α → ab_S) (m : α → Nat) (I : α → Prop) (h : ∀ a, I a → (∀ b, I b → m b < m a → ab_wp ro C own ini ret code Q (S b)) → ab_wp ro C own ini ret code Q (S a)) (a0 : α) (h0 : I a0) : ab_wp ro C own ini ret code Q (S a0) := by
  have key : ∀ n a, m a < n → I a → ab_wp ro C own ini ret code Q (S a) := by
    intro n
    induction n with
    | zero => intro a h1; exact absurd h1 (Nat.not_lt_zero _)
    | succ n ih => intro a h1 h2; exact h a h2 (fun b hb hm => ih b (by omega) hb)
  exact key (m a0 + 1) a0 (Nat.lt_succ_self _) h0
end AbLoop
theorem ab_inc {z : Int32} (h : z.toInt < 2147483647) : (z + (1 : Int32)).toInt = z.toInt + 1 := by
  have h1 := Int32.le_toInt z
  rw [Int32.toInt_add, show (1 : Int32).toInt = 1 from by decide]
  unfold Int.bmod
  dsimp only
  split <;> omega
def ab_tl (i : Nat) : Int32 := match i with
  | 1 => 2
  | _ => 0
def ab_tm (i : Nat) : Int32 := match i with
  | 0 => 999
  | 1 => 99
  | 2 => 10
  | _ => 9
/-- the old rows that are read: the script, TERM_LEAST, TERM_MOST -/
def ab_roL (L : Nat) (xs : Nat → Int32) : ab_R := fun j => match j with
  | 0 => some (L, xs)
  | 1 => some (4, ab_tl)
  | 2 => some (4, ab_tm)
  | _ => none
theorem ab_upn (k : Nat) : va_up (fun _ : Nat => (none : Option Nat)) k none = fun _ => none := by
  funext i
  unfold va_up
  split <;> rfl
/-- a row of two references -/
def ab_two (x y : Nat) : Nat → Option Nat := fun i => if i = 0 then some x else if i = 1 then some y else none
theorem ab_two_map (p : Nat → Nat) (x y : Nat) : (fun i => (ab_two x y i).map p) = ab_two (p x) (p y) := by
  funext i
  unfold ab_two
  by_cases h0 : i = 0
  · rw [if_pos h0, if_pos h0]; rfl
  · rw [if_neg h0, if_neg h0]
    by_cases h1 : i = 1
    · rw [if_pos h1, if_pos h1]; rfl
    · rw [if_neg h1, if_neg h1]; rfl
theorem ab_up_two (x y : Nat) : va_up (va_up (fun _ => none) 0 (some x)) 1 (some y) = ab_two x y := by
  funext i
  unfold ab_two va_up
  by_cases h0 : i = 0
  · subst h0; rfl
  · by_cases h1 : i = 1
    · subst h1; rfl
    · simp [h0, h1]
theorem ab_wp_w {ro : ab_R} {C : Nat → List Value → ab_W → ab_O → Prop} {own : Nat} {ini : Bool} {ret : Option FieldType} {code : ab_C} {Q : ab_O → Prop} {pc a b : Nat} {L : ab_L} {st : List Value} {w w' : ab_W} (h : w = w') (k : ab_wp ro C own ini ret code Q (pc, L, st, w', a, b)) : ab_wp ro C own ini ret code Q (pc, L, st, w, a, b) := h ▸ k
