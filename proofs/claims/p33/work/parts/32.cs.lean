/-! the checker is sound: states -/
def ck_tag (L : ab_L) (w : ab_W) (t : ck_T) (v : Value) : Prop := match t.1 with
  | 0 => True
  | 1 => L[t.2.1]? = some (some v)
  | 3 => ∀ x : Int32, v = .int x → x.toInt ≠ 0 → ∃ y : Int32, L[t.2.1]? = some (some (.int y)) ∧ (ck_w t.2.2).1 ≤ y.toInt ∧ y.toInt ≤ (ck_w t.2.2).2
  | _ => ∃ o ci fs, L[t.2.1]? = some (some (.ref o)) ∧ w[o]? = some (.inr (ci, fs)) ∧ fs[t.2.2]? = some v
def ck_stk (G : Nat → Nat) (L : ab_L) (w : ab_W) : List ck_V → List Value → Prop
  | [], [] => True
  | q :: qs, v :: vs => (ty_v G q.1 v ∧ ck_tag L w q.2 v) ∧ ck_stk G L w qs vs
  | _, _ => False
def ck_lcs (G : Nat → Nat) (A : List (Option ty_A)) (L : ab_L) : Prop := A.length = L.length ∧ ∀ (k : Nat) (a : ty_A), A[k]? = some (some a) → ∃ v, L[k]? = some (some v) ∧ ty_v G a v
def ck_fcs (G : Nat → Nat) (L : ab_L) (w : ab_W) (F : List (Nat × Nat × ty_A)) : Prop := ∀ q ∈ F, ∃ v, ck_tag L w (2, q.1, q.2.1) v ∧ ty_v G q.2.2 v
def ck_ms (G : Nat → Nat) (A : ck_A) (L : ab_L) (st : List Value) (w : ab_W) : Prop := ck_lcs G A.1 L ∧ ck_stk G L w A.2.1 st ∧ ck_fcs G L w A.2.2
section Ck
variable {G : Nat → Nat}
theorem ck_stk_len {L : ab_L} {w : ab_W} : ∀ {s : List ck_V} {st : List Value}, ck_stk G L w s st → s.length = st.length
  | [], [], _ => rfl
  | _ :: _, _ :: _, h => by rw [List.length_cons, List.length_cons, ck_stk_len h.2]
  | [], _ :: _, h => h.elim
  | _ :: _, [], h => h.elim
/-- a stack with fewer tags, in another state where those that are left hold -/
theorem ck_stk_map {L L' : ab_L} {w w' : ab_W} {f : ck_V → ck_V} (hf : ∀ (q : ck_V) (v : Value), ty_v G q.1 v → ck_tag L w q.2 v → ty_v G (f q).1 v ∧ ck_tag L' w' (f q).2 v) : ∀ {s : List ck_V} {st : List Value}, ck_stk G L w s st → ck_stk G L' w' (s.map f) st
  | [], [], _ => trivial
  | q :: _, v :: _, h => ⟨hf q v h.1.1 h.1.2, ck_stk_map hf h.2⟩
  | [], _ :: _, h => h.elim
  | _ :: _, [], h => h.elim
theorem ck_stk_imp {L L' : ab_L} {w w' : ab_W} (hf : ∀ (q : ck_T) (v : Value), ck_tag L w q v → ck_tag L' w' q v) : ∀ {s : List ck_V} {st : List Value}, ck_stk G L w s st → ck_stk G L' w' s st
  | [], [], _ => trivial
  | q :: _, v :: _, h => ⟨⟨h.1.1, hf q.2 v h.1.2⟩, ck_stk_imp hf h.2⟩
  | [], _ :: _, h => h.elim
  | _ :: _, [], h => h.elim
theorem ck_tag_L {L L' : ab_L} {w : ab_W} {t : ck_T} {v : Value} (h : ck_tag L w t v) (e : L'[t.2.1]? = L[t.2.1]?) : ck_tag L' w t v := by
  obtain ⟨a, k, f⟩ := t
  match a, h with
  | 0, _ => exact trivial
  | 1, h => exact e.trans h
  | 3, h =>
    intro x hx hn
    obtain ⟨y, h1, h2⟩ := h x hx hn
    exact ⟨y, e.trans h1, h2⟩
  | 2, h =>
    obtain ⟨o, ci, fs, h1, h2, h3⟩ := h
    exact ⟨o, ci, fs, e.trans h1, h2, h3⟩
  | n + 4, h =>
    obtain ⟨o, ci, fs, h1, h2, h3⟩ := h
    exact ⟨o, ci, fs, e.trans h1, h2, h3⟩
theorem ck_drop_ok {L L' : ab_L} {w : ab_W} {k : Nat} {s : List ck_V} {st : List Value} (h : ck_stk G L w s st) (e : ∀ j, j ≠ k → L'[j]? = L[j]?) : ck_stk G L' w (ck_drop k s) st := by
  refine ck_stk_map (fun q v h1 h2 => ?_) h
  cases hb : (Nat.beq q.2.1 0 || !(Nat.beq q.2.2.1 k)) with
  | true =>
    rw [cond_true]
    refine ⟨h1, ?_⟩
    rw [Bool.or_eq_true] at hb
    rcases hb with hb | hb
    · have := Nat.eq_of_beq_eq_true hb
      unfold ck_tag
      rw [this]
      exact trivial
    · refine ck_tag_L h2 (e _ (fun z => ?_))
      rw [z, Nat.beq_refl] at hb
      cases hb
  | false => exact ⟨h1, trivial⟩
theorem ck_fdrop_ok {L L' : ab_L} {w : ab_W} {k : Nat} {F : List (Nat × Nat × ty_A)} (h : ck_fcs G L w F) (e : ∀ j, j ≠ k → L'[j]? = L[j]?) : ck_fcs G L' w (ck_fdrop k F) := by
  intro q hq
  obtain ⟨h1, h2⟩ := List.mem_filter.mp hq
  obtain ⟨v, h3, h4⟩ := h q h1
  refine ⟨v, ck_tag_L h3 (e _ (fun z => ?_)), h4⟩
  have z : q.1 = k := z
  rw [z, Nat.beq_refl] at h2
  cases h2
theorem ck_set_ok {A : ck_A} {L : ab_L} {st : List Value} {w : ab_W} {k : Nat} {t : Option ty_A} {x : Option Value} (h : ck_ms G A L st w) (ht : ∀ a, t = some a → ∃ v, x = some v ∧ ty_v G a v) : ck_ms G (ck_set A k t) (L.set k x) st w := by
  obtain ⟨⟨h1, h2⟩, h3, h4⟩ := h
  have e : ∀ j, j ≠ k → (L.set k x)[j]? = L[j]? := fun j hj => by rw [List.getElem?_set, if_neg (fun z => hj z.symm)]
  refine ⟨⟨by show (A.1.set k t).length = _; rw [List.length_set, List.length_set, h1], fun j a hj => ?_⟩, ck_drop_ok h3 e, ck_fdrop_ok h4 e⟩
  have hj : (A.1.set k t)[j]? = some (some a) := hj
  rw [List.getElem?_set] at hj
  by_cases z : k = j
  · rw [if_pos z] at hj
    split at hj
    · rename_i hl
      simp only [Option.some.injEq] at hj
      obtain ⟨v, hv1, hv2⟩ := ht a hj
      refine ⟨v, ?_, hv2⟩
      rw [List.getElem?_set, if_pos z, if_pos (by omega), hv1]
    · cases hj
  · rw [if_neg z] at hj
    obtain ⟨v, hv1, hv2⟩ := h2 j a hj
    exact ⟨v, by rw [e j (fun q => z q.symm)]; exact hv1, hv2⟩
theorem ck_kill_ok {A : ck_A} {L : ab_L} {st : List Value} {w : ab_W} {k : Nat} (h : ck_ms G A L st w) : ck_ms G (ck_kill A k) (ab_kill L k) st w := by
  cases k with
  | zero => exact h
  | succ j =>
    have stay : ∀ a : ty_A, A.1[j]? = some (some a) → a.1 ≠ 1 → ab_kill L (j + 1) = L := by
      intro a ha hn
      obtain ⟨v, h1, h2⟩ := h.1.2 j a ha
      unfold ab_kill
      dsimp only
      rw [h1]
      cases v with
      | long x => exact absurd h2.1 hn
      | double x => exact h2.elim
      | _ => rfl
    have gone : ck_ms G (ck_set A j none) (ab_kill L (j + 1)) st w := by
      unfold ab_kill
      dsimp only
      split
      · exact ck_set_ok h (fun a z => by cases z)
      · exact ck_set_ok h (fun a z => by cases z)
      · obtain ⟨⟨h1, h2⟩, h3, h4⟩ := h
        have e : ∀ i, i ≠ j → L[i]? = L[i]? := fun i _ => rfl
        refine ⟨⟨by show (A.1.set j none).length = _; rw [List.length_set, h1], fun i a hi => ?_⟩, ck_drop_ok h3 e, ck_fdrop_ok h4 e⟩
        have hi : (A.1.set j none)[i]? = some (some a) := hi
        rw [List.getElem?_set] at hi
        by_cases z : j = i
        · rw [if_pos z] at hi
          split at hi
          · cases hi
          · cases hi
        · rw [if_neg z] at hi
          exact h2 i a hi
    unfold ck_kill
    dsimp only
    split
    · rename_i e
      rw [stay _ e (by simp)]
      exact h
    · rename_i e
      rw [stay _ e (by simp)]
      exact h
    · rename_i e
      rw [stay _ e (by simp)]
      exact h
    · exact gone
theorem ck_pop_ok {A : ck_A} {L : ab_L} {st r : List Value} {w : ab_W} {s : List ck_V} (h : ck_ms G A L st w) (hs : ck_stk G L w s r) : ck_ms G (ck_stl A s) L r w := ⟨h.1, hs, h.2.2⟩
theorem ck_push_ok {A : ck_A} {L : ab_L} {st : List Value} {w : ab_W} {t : ty_A} {g : ck_T} {v : Value} (h : ck_ms G A L st w) (hv : ty_v G t v) (hg : ck_tag L w g v) : ck_ms G (ck_push A t g) L (v :: st) w := ⟨h.1, ⟨⟨hv, hg⟩, h.2.1⟩, h.2.2⟩
theorem ck_app_ok {A : ck_A} {L : ab_L} {st : List Value} {w : ab_W} {t : ty_A} {g : ck_T} {v : Value} (h : ck_ms G A L st w) (hv : ty_v G t v) (hg : ck_tag L w g v) : ck_ms G (ck_app A g t) L st w := by
  obtain ⟨a, k, f⟩ := g
  match a, hg with
  | 0, _ => exact h
  | 1, hg =>
    refine ⟨⟨by show (A.1.set k (some t)).length = _; rw [List.length_set]; exact h.1.1, fun j b hj => ?_⟩, h.2.1, h.2.2⟩
    have hj : (A.1.set k (some t))[j]? = some (some b) := hj
    rw [List.getElem?_set] at hj
    by_cases z : k = j
    · rw [if_pos z] at hj
      split at hj
      · simp only [Option.some.injEq] at hj
        subst hj
        subst z
        exact ⟨v, hg, hv⟩
      · cases hj
    · rw [if_neg z] at hj
      exact h.1.2 j b hj
  | 2, hg =>
    refine ⟨h.1, h.2.1, fun q hq => ?_⟩
    rcases List.mem_cons.mp hq with e | e
    · subst e
      exact ⟨v, hg, hv⟩
    · exact h.2.2 q e
  | n + 4, hg =>
    refine ⟨h.1, h.2.1, fun q hq => ?_⟩
    rcases List.mem_cons.mp hq with e | e
    · subst e
      exact ⟨v, hg, hv⟩
    · exact h.2.2 q e
  | 3, hg =>
    show ck_ms G (match A.1[k]? with
      | some (some (0, a, b)) => cond (Nat.beq t.1 0 && (decide (0 < t.2.1) || decide (t.2.2 < 0))) (A.1.set k (some (0, max a (ck_w f).1, min b (ck_w f).2)), A.2.1, A.2.2) A
      | _ => A) L st w
    split
    · rename_i lo hi e
      cases hb : (Nat.beq t.1 0 && (decide (0 < t.2.1) || decide (t.2.2 < 0))) with
      | false => exact h
      | true =>
        rw [cond_true]
        refine ⟨⟨by show (A.1.set k (some _)).length = _; rw [List.length_set]; exact h.1.1, fun j b hj => ?_⟩, h.2.1, h.2.2⟩
        have hj : (A.1.set k (some (0, max lo (ck_w f).1, min hi (ck_w f).2)))[j]? = some (some b) := hj
        rw [List.getElem?_set] at hj
        by_cases z : k = j
        · rw [if_pos z] at hj
          split at hj
          · simp only [Option.some.injEq] at hj
            subst hj
            subst z
            simp only [Bool.and_eq_true, Bool.or_eq_true, decide_eq_true_eq] at hb
            obtain ⟨hb0, hb⟩ := hb
            have hb0 := Nat.eq_of_beq_eq_true hb0
            obtain ⟨u, h1, h2⟩ := h.1.2 k _ e
            cases v with
            | int x =>
              have hx := hv.2
              obtain ⟨y, g1, g2, g3⟩ := hg x rfl (by omega)
              have g1 : L[k]? = some (some (.int y)) := g1
              rw [h1] at g1
              cases g1
              refine ⟨_, h1, rfl, ?_, ?_⟩
              · have := h2.2.1
                show max lo (ck_w f).1 ≤ y.toInt
                have this : lo ≤ y.toInt := this
                have g2 : (ck_w f).1 ≤ y.toInt := g2
                omega
              · have := h2.2.2
                show y.toInt ≤ min hi (ck_w f).2
                have this : y.toInt ≤ hi := this
                have g3 : y.toInt ≤ (ck_w f).2 := g3
                omega
            | long x => have := hv.1; omega
            | ref x => rcases hv with hv | hv <;> (have := hv.1; omega)
            | null => have := hv.1; omega
            | _ => exact hv.elim
          · cases hj
        · rw [if_neg z] at hj
          exact h.1.2 j b hj
    · exact h
theorem ck_fct_ok {A : ck_A} {L : ab_L} {st : List Value} {w : ab_W} {k f o ci : Nat} {fs : List Value} {v : Value} {t0 : ty_A} (h : ck_ms G A L st w) (hL : L[k]? = some (some (.ref o))) (hw : w[o]? = some (.inr (ci, fs))) (hv : fs[f]? = some v) (h0 : ty_v G t0 v) : ty_v G ((ck_fct A k f).getD t0) v := by
  unfold ck_fct
  cases e : A.2.2.find? (fun q => Nat.beq q.1 k && Nat.beq q.2.1 f) with
  | none => exact h0
  | some q =>
    have hm := List.mem_of_find?_eq_some e
    have hp := List.find?_some e
    rw [Bool.and_eq_true] at hp
    have e1 := Nat.eq_of_beq_eq_true hp.1
    have e2 := Nat.eq_of_beq_eq_true hp.2
    obtain ⟨v', h1, h2⟩ := h.2.2 q hm
    obtain ⟨o', ci', fs', g1, g2, g3⟩ := h1
    dsimp only at g1 g3
    rw [e1, hL] at g1
    cases g1
    rw [hw] at g2
    cases g2
    rw [e2, hv] at g3
    cases g3
    exact h2
theorem ck_fdp {L : ab_L} {w : ab_W} {k g o ci f : Nat} {v x : Value} {fs : List Value} (h : ∃ o ci fs, L[k]? = some (some (.ref o)) ∧ w[o]? = some (.inr (ci, fs)) ∧ fs[g]? = some v) (hw : w[o]? = some (.inr (ci, fs))) (hg : g ≠ f) : ∃ o' ci' fs', L[k]? = some (some (.ref o')) ∧ (w.set o (.inr (ci, fs.set f x)))[o']? = some (.inr (ci', fs')) ∧ fs'[g]? = some v := by
  obtain ⟨o', ci', fs', h1, h2, h3⟩ := h
  by_cases z : o = o'
  · subst z
    rw [hw] at h2
    cases h2
    refine ⟨o, ci, fs.set f x, h1, ?_, ?_⟩
    · rw [List.getElem?_set, if_pos rfl, if_pos (List.getElem?_eq_some_iff.mp hw).1]
    · rw [List.getElem?_set, if_neg (fun q => hg q.symm)]
      exact h3
  · exact ⟨o', ci', fs', h1, by rw [List.getElem?_set, if_neg z]; exact h2, h3⟩
/-- an object's field is put -/
theorem ck_tag_put {L : ab_L} {w : ab_W} {t : ck_T} {v x : Value} {o ci f : Nat} {fs : List Value} (h : ck_tag L w t v) (hw : w[o]? = some (.inr (ci, fs))) (hf : t.1 = 0 ∨ t.1 = 1 ∨ t.2.2 ≠ f) : ck_tag L (w.set o (.inr (ci, fs.set f x))) t v := by
  obtain ⟨a, k, g⟩ := t
  match a, h with
  | 0, _ => exact trivial
  | 1, h => exact h
  | 3, h => exact h
  | 2, h =>
    have hg : g ≠ f := by
      rcases hf with z | z | z
      · cases z
      · cases z
      · exact z
    exact ck_fdp h hw hg
  | n + 4, h =>
    have hg : g ≠ f := by
      rcases hf with z | z | z
      · have z : n + 4 = 0 := z
        omega
      · have z : n + 4 = 1 := z
        omega
      · exact z
    exact ck_fdp h hw hg
theorem ck_put_ok {A : ck_A} {L : ab_L} {st r : List Value} {w : ab_W} {s : List ck_V} {o ci f : Nat} {fs : List Value} {t : ty_A} {g : ck_T} {x : Value} (h : ck_ms G A L st w) (hs : ck_stk G L w s r) (hw : w[o]? = some (.inr (ci, fs))) (hx : ty_v G t x) (hg : ck_tag L w g (.ref o)) (hf : f < fs.length) :
    ck_ms G (A.1, ck_dropF f s, cond (Nat.beq g.1 1) ((g.2.1, f, t) :: ck_fdropF f A.2.2) (ck_fdropF f A.2.2)) L r (w.set o (.inr (ci, fs.set f x))) := by
  have hF : ck_fcs G L (w.set o (.inr (ci, fs.set f x))) (ck_fdropF f A.2.2) := by
    intro q hq
    obtain ⟨h1, h2⟩ := List.mem_filter.mp hq
    obtain ⟨v, h3, h4⟩ := h.2.2 q h1
    refine ⟨v, ck_tag_put h3 hw (Or.inr (Or.inr (fun z => ?_))), h4⟩
    have z : q.2.1 = f := z
    rw [z, Nat.beq_refl] at h2
    cases h2
  refine ⟨h.1, ?_, ?_⟩
  · refine ck_stk_map (fun q v h1 h2 => ?_) hs
    cases hb : (Nat.beq q.2.1 0 || Nat.beq q.2.1 1 || !(Nat.beq q.2.2.2 f)) with
    | true =>
      rw [cond_true]
      refine ⟨h1, ck_tag_put h2 hw ?_⟩
      rw [Bool.or_eq_true, Bool.or_eq_true] at hb
      rcases hb with (hb | hb) | hb
      · exact Or.inl (Nat.eq_of_beq_eq_true hb)
      · exact Or.inr (Or.inl (Nat.eq_of_beq_eq_true hb))
      · refine Or.inr (Or.inr (fun z => ?_))
        rw [z, Nat.beq_refl] at hb
        cases hb
    | false => exact ⟨h1, trivial⟩
  · cases hb : Nat.beq g.1 1 with
    | false => exact hF
    | true =>
      have e := Nat.eq_of_beq_eq_true hb
      intro q hq
      rcases List.mem_cons.mp hq with z | z
      · subst z
        refine ⟨x, ⟨o, ci, fs.set f x, ?_, ?_, ?_⟩, hx⟩
        · unfold ck_tag at hg
          rw [e] at hg
          exact hg
        · rw [List.getElem?_set, if_pos rfl, if_pos (List.getElem?_eq_some_iff.mp hw).1]
        · rw [List.getElem?_set, if_pos rfl, if_pos hf]
      · exact hF q z
theorem ck_fdr {L : ab_L} {w : ab_W} {k g o : Nat} {v : Value} {x y : Nat × vp_A} (h : ∃ o ci fs, L[k]? = some (some (.ref o)) ∧ w[o]? = some (.inr (ci, fs)) ∧ fs[g]? = some v) (hw : w[o]? = some (.inl x)) : ∃ o' ci' fs', L[k]? = some (some (.ref o')) ∧ (w.set o (.inl y))[o']? = some (.inr (ci', fs')) ∧ fs'[g]? = some v := by
  obtain ⟨o', ci', fs', h1, h2, h3⟩ := h
  refine ⟨o', ci', fs', h1, ?_, h3⟩
  rw [List.getElem?_set, if_neg (fun z => ?_)]
  · exact h2
  · subst z
    rw [hw] at h2
    cases h2
/-- a row is written -/
theorem ck_tag_row {L : ab_L} {w : ab_W} {t : ck_T} {v : Value} {o : Nat} {x y : Nat × vp_A} (h : ck_tag L w t v) (hw : w[o]? = some (.inl x)) : ck_tag L (w.set o (.inl y)) t v := by
  obtain ⟨a, k, g⟩ := t
  match a, h with
  | 0, _ => exact trivial
  | 1, h => exact h
  | 3, h => exact h
  | 2, h => exact ck_fdr h hw
  | n + 4, h => exact ck_fdr h hw
theorem ck_row_ok {A : ck_A} {L : ab_L} {st r : List Value} {w : ab_W} {s : List ck_V} {o : Nat} {x y : Nat × vp_A} (h : ck_ms G A L st w) (hs : ck_stk G L w s r) (hw : w[o]? = some (.inl x)) : ck_ms G (ck_stl A s) L r (w.set o (.inl y)) := by
  refine ⟨h.1, ?_, fun q hq => ?_⟩
  · exact ck_stk_imp (fun q v h2 => ck_tag_row h2 hw) hs
  · obtain ⟨v, h3, h4⟩ := h.2.2 q hq
    exact ⟨v, ck_tag_row h3 hw, h4⟩
theorem ck_dropA_ok {L : ab_L} {w w' : ab_W} {s : List ck_V} {st : List Value} (h : ck_stk G L w s st) : ck_stk G L w' (ck_dropA s) st := by
  refine ck_stk_map (fun q v h1 h2 => ?_) h
  cases hb : (Nat.beq q.2.1 0 || Nat.beq q.2.1 1) with
  | true =>
    rw [cond_true]
    refine ⟨h1, ?_⟩
    rw [Bool.or_eq_true] at hb
    unfold ck_tag at h2 ⊢
    rcases hb with hb | hb
    · rw [Nat.eq_of_beq_eq_true hb]
      exact trivial
    · rw [Nat.eq_of_beq_eq_true hb] at h2 ⊢
      exact h2
  | false => exact ⟨h1, trivial⟩
theorem ck_leL_ok : ∀ {A B : List (Option ty_A)} {L : ab_L}, ck_leL A B = true → ck_lcs G A L → ck_lcs G B L := by
  have key : ∀ (A B : List (Option ty_A)), ck_leL A B = true → A.length = B.length ∧ ∀ (k : Nat) (b : ty_A), B[k]? = some (some b) → ∃ a, A[k]? = some (some a) ∧ ty_le a b = true := by
    intro A
    induction A with
    | nil =>
      intro B h
      cases B with
      | nil => exact ⟨rfl, fun k b hk => by cases hk⟩
      | cons b t => cases b <;> cases h
    | cons a s ih =>
      intro B h
      cases B with
      | nil => cases a <;> cases h
      | cons b t =>
        cases b with
        | none =>
          have h : ck_leL s t = true := by cases a <;> exact h
          obtain ⟨h1, h2⟩ := ih t h
          refine ⟨by rw [List.length_cons, List.length_cons, h1], fun k b hk => ?_⟩
          cases k with
          | zero => cases hk
          | succ k => exact h2 k b hk
        | some b =>
          cases a with
          | none => cases h
          | some a =>
            have h : (ty_le a b && ck_leL s t) = true := h
            rw [Bool.and_eq_true] at h
            obtain ⟨h1, h2⟩ := ih t h.2
            refine ⟨by rw [List.length_cons, List.length_cons, h1], fun k b' hk => ?_⟩
            cases k with
            | zero => cases hk; exact ⟨a, rfl, h.1⟩
            | succ k => exact h2 k b' hk
  intro A B L h hA
  obtain ⟨h1, h2⟩ := key A B h
  refine ⟨by rw [← h1]; exact hA.1, fun k b hk => ?_⟩
  obtain ⟨a, ha, hl⟩ := h2 k b hk
  obtain ⟨v, hv1, hv2⟩ := hA.2 k a ha
  exact ⟨v, hv1, ty_le_ok hl hv2⟩
theorem ck_leS_ok {L : ab_L} {w : ab_W} : ∀ {A B : List ck_V} {st : List Value}, ck_leS A B = true → ck_stk G L w A st → ck_stk G L w B st
  | [], [], _, _, h => h
  | [], _ :: _, _, h, _ => by cases h
  | _ :: _, [], _, h, _ => by cases h
  | a :: s, b :: t, [], _, h => h.elim
  | a :: s, b :: t, v :: vs, h, hs => by
    have h : (ty_le a.1 b.1 && (Nat.beq b.2.1 0 || (Nat.beq a.2.1 b.2.1 && Nat.beq a.2.2.1 b.2.2.1 && Nat.beq a.2.2.2 b.2.2.2)) && ck_leS s t) = true := h
    rw [Bool.and_eq_true, Bool.and_eq_true] at h
    refine ⟨⟨ty_le_ok h.1.1 hs.1.1, ?_⟩, ck_leS_ok h.2 hs.2⟩
    have h2 := h.1.2
    rw [Bool.or_eq_true] at h2
    rcases h2 with z | z
    · unfold ck_tag
      rw [Nat.eq_of_beq_eq_true z]
      exact trivial
    · rw [Bool.and_eq_true, Bool.and_eq_true] at z
      have : b.2 = a.2 := Prod.ext (Nat.eq_of_beq_eq_true z.1.1).symm (Prod.ext (Nat.eq_of_beq_eq_true z.1.2).symm (Nat.eq_of_beq_eq_true z.2).symm)
      rw [this]
      exact hs.1.2
theorem ck_le_ok {A B : ck_A} {L : ab_L} {st : List Value} {w : ab_W} (h : ck_le A B = true) (hm : ck_ms G A L st w) : ck_ms G B L st w := by
  unfold ck_le at h
  rw [Bool.and_eq_true, Bool.and_eq_true] at h
  refine ⟨ck_leL_ok h.1.1 hm.1, ck_leS_ok h.1.2 hm.2.1, fun q hq => ?_⟩
  have h2 := List.all_eq_true.mp h.2 q hq
  obtain ⟨r, hr, h3⟩ := List.any_eq_true.mp h2
  rw [Bool.and_eq_true, Bool.and_eq_true] at h3
  obtain ⟨v, h4, h5⟩ := hm.2.2 r hr
  rw [Nat.eq_of_beq_eq_true h3.1.1, Nat.eq_of_beq_eq_true h3.1.2] at h4
  exact ⟨v, h4, ty_le_ok h3.2 h5⟩
end Ck
