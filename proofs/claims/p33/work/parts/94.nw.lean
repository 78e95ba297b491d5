/-! a call in the whole world that makes cells; a reference is put into a row -/
theorem ty_put_ge {sp : Nat → ty_S} {G : Nat → Nat} {w w1 : ab_W} (h : ty_w sp G w1) {p : Nat → Nat} (hp : ty_id G p) (hl : w.length ≤ w1.length) : ab_put (List.range w.length) w.length w w1 p = w1 := by
  unfold ab_put
  have e2 : (w1.drop w.length).map (ab_re p id) = w1.drop w.length := by
    apply List.ext_getElem?
    intro k
    rw [List.getElem?_map, List.getElem?_drop]
    cases hk : w1[w.length + k]? with
    | none => rfl
    | some c =>
      show some (ab_re p id c) = some c
      rw [ty_get_id h hp hk]
  rw [e2]
  have e1 : ab_mi (fun k e => match ab_ix (List.range w.length) k 0 with
      | some i => match w1[i]? with
        | some x => ab_re p id x
        | none => e
      | none => e) 0 w = w1.take w.length := by
    apply List.ext_getElem?
    intro k
    rw [ab_mi_get, Nat.zero_add]
    by_cases hk : k < w.length
    · have hk1 : k < w1.length := by omega
      rw [List.getElem?_take_of_lt hk, List.getElem?_eq_getElem hk, List.getElem?_eq_getElem hk1, Option.map_some, ab_ix_range hk]
      dsimp only
      rw [List.getElem?_eq_getElem hk1]
      dsimp only
      rw [ty_get_id h hp (List.getElem?_eq_getElem hk1)]
    · rw [List.getElem?_eq_none (by omega), List.getElem?_eq_none (by rw [List.length_take]; omega)]
      rfl
  exact (congrArg (fun l => l ++ w1.drop w.length) e1).trans (List.take_append_drop _ _)
theorem ty_id_ge {sp : Nat → ty_S} {G : Nat → Nat} {w w1 : ab_W} (h : ty_w sp G w1) (hl : w.length ≤ w1.length) : ty_id G (ab_pi (List.range w.length) w.length) := by
  refine ⟨fun k hk => ?_, fun k hk => ab_pi_far (by have := h.2.2; omega) hk⟩
  have h1 := h.2.1 k hk
  have h2 := h.2.2
  by_cases z : k < w.length
  · exact ab_pi_range z
  · unfold ab_pi
    rw [List.length_range, if_neg z, if_pos (by omega)]
    omega
theorem ab_cl_new {sp : Nat → ty_S} {G G' : Nat → Nat} {C : Nat → List Value → ab_W → ab_O → Prop} {j mc ms : Nat} {as : List Value} {w w1 : ab_W} {v : Option Value} {Q : Option Value → ab_W → Nat → Nat → Prop} (hw : ty_w sp G w) (has : ∀ x ∈ as, ∃ a, ty_v G a x) (hC : C j as w (v, w1, mc, ms)) (hw1 : ty_w sp G' w1) (hl : w1.length = w.length + mc) (hm : mc < 100000) (hv : ∀ x, v = some x → ∃ a, ty_v G' a x) (hQ : Q v w1 mc ms) : ab_cl C j as w Q := by
  have hp := ty_id_pi hw
  have hp1 := ty_id_ge (w := w) hw1 (by omega)
  refine ⟨List.range w.length, as, w, v, w1, mc, ms, by have := hw.2.2; omega, List.nodup_range, ?_, ty_map_id hw hp, hm, hC, ?_⟩
  · apply List.ext_getElem?
    intro k
    rw [List.getElem?_map]
    cases hk : as[k]? with
    | none => rfl
    | some x =>
      obtain ⟨a, ha⟩ := has x (List.mem_of_getElem? hk)
      show some x = some (ab_rv _ x)
      rw [ty_id_v hp ha]
  · rw [ty_put_ge hw1 hp1 (by omega)]
    cases v with
    | none => exact hQ
    | some x =>
      obtain ⟨a, ha⟩ := hv x rfl
      show Q (some (ab_rv _ x)) _ _ _
      rw [ty_id_v hp1 ha]
      exact hQ
theorem hx_as16 {ro : ab_R} {C : Nat → List Value → ab_W → ab_O → Prop} {own : Nat} {ret : Option FieldType} {code : ab_C} {Q : ab_O → Prop} {pc l t : Nat} {L : ab_L} {r : List Value} {w : ab_W} {G : Nat → Nat} {o v : Nat} {i : Int32} (hc : code pc = some (.aastore, t)) (hl : l = pc + 1) (hw : ty_w sp_ G w) (hG : G o = 16) (hv : G v = 10) (h1 : 0 ≤ i.toInt) (h2 : i.toInt < (6 : Nat)) (kk : ∀ w2 : ab_W, (∀ j, j ≠ o → w2[j]? = w[j]?) → ty_w sp_ G w2 → (∀ fb, ck_ok fb ((16 : Nat) : Int) 999 = true → ty_same G fb w w2) → ab_wp ro C own false ret code Q (l, L, r, w2, 0, 0)) : ab_wp ro C own false ret code Q (pc, L, .ref v :: .int i :: .ref o :: r, w, 0, 0) := by
  subst hl
  obtain ⟨c, g, hc2⟩ := ty_w_at hw (k := o) (by rw [hG]; decide)
  rw [hG] at hc2
  obtain ⟨f, rfl, q1, q2⟩ := ty_qrow hc2 rfl
  obtain ⟨c3, g3, hc3⟩ := ty_w_at hw (k := v) (by rw [hv]; decide)
  rw [hv] at hc3
  obtain ⟨ci, fs, rfl, e1, -⟩ := ty_obj hc3 rfl
  have e1 : ci = 7 := e1
  subst e1
  refine ax_sw (ps := [vp_in i 6]) (x := (L, r, w.set o (.inl (5, 6, .inr (.inr (.inr (.inr (va_up f i.toNatClampNeg (some v))))))), 0, 0)) (pc + 1) hc ?_ rfl ⟨hx_in h1 h2, trivial⟩ (kk _ (fun j hj => ?_) (ty_w_set hw ?_) (fun fb h => ck_same_row g h (by rw [hG])))
  · have g : w[o]? = some (.inl (5, 6, .inr (.inr (.inr (.inr f))))) := g
    simp only [ab_nx, g, g3]
    rfl
  · rw [List.getElem?_set, if_neg (fun z => hj z.symm)]
  · rw [hG]
    refine ⟨rfl, rfl, rfl, fun j k hk => ?_, fun q hq hz => ?_⟩
    · unfold va_up at hk
      by_cases z : j = i.toNatClampNeg
      · rw [if_pos z] at hk
        cases hk
        refine ⟨by rw [hv]; decide, fun q hq => ?_⟩
        rw [hv]
        have hq : q ∈ [((0 : Nat), (0 : Nat), (0 : Nat), (0 : Nat), (10 : Int), (0 : Int))] := hq
        rw [List.mem_singleton.mp hq]
        rfl
      · rw [if_neg z] at hk
        exact q1 j k hk
    · have hq : q ∈ [((0 : Nat), (0 : Nat), (0 : Nat), (0 : Nat), (10 : Int), (0 : Int))] := hq
      rw [List.mem_singleton.mp hq] at hz
      cases hz
