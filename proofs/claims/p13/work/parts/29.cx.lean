/-! a call that is given a law's text: the callee sees the text as its last three cells -/
def im_rvx (is : List Nat) (t : Nat) (v : im_V) : Option im_V := match v with
  | .inr (.inr (.inl (some k))) => if k = is.length then some (mt t) else match im_pi is k with
    | some j => some (.inr (.inr (.inl (some j))))
    | none => none
  | .inl x => some (.inl x)
  | .inr (.inl x) => some (.inr (.inl x))
  | .inr (.inr (.inl none)) => some (.inr (.inr (.inl none)))
  | _ => none
def im_rvsx (is : List Nat) (t : Nat) : List im_V → Option (List im_V)
  | [] => some []
  | v :: r => match im_rvx is t v, im_rvsx is t r with
    | some x, some y => some (x :: y)
    | _, _ => none
def im_rex (is : List Nat) (t : Nat) (e : im_E) : Option im_E := match e with
  | .inl (c, fs) => match im_rvsx is t fs with
    | some z => some (.inl (c, z))
    | none => none
  | .inr (t, m, .inl f) => some (.inr (t, m, .inl f))
  | _ => none
def im_resx (is : List Nat) (t : Nat) : List im_E → Option (List im_E)
  | [] => some []
  | v :: r => match im_rex is t v, im_resx is t r with
    | some x, some y => some (x :: y)
    | _, _ => none
def im_rvox (is : List Nat) (t : Nat) (v : Option im_V) : Option (Option im_V) := match v with
  | none => some none
  | some x => match im_rvx is t x with
    | some y => some (some y)
    | none => none
theorem im_resx_cons {is : List Nat} {t : Nat} {v : im_E} {r z : List im_E} (h : im_resx is t (v :: r) = some z) : ∃ x y, im_rex is t v = some x ∧ im_resx is t r = some y ∧ z = x :: y := by
  unfold im_resx at h
  split at h
  · rename_i x y h1 h2
    cases h
    exact ⟨x, y, h1, h2, rfl⟩
  · cases h
theorem im_resx_len {is : List Nat} {t : Nat} : ∀ {l z : List im_E}, im_resx is t l = some z → z.length = l.length
  | [], z, h => by cases h; rfl
  | v :: r, z, h => by
    obtain ⟨x, y, h1, h2, rfl⟩ := im_resx_cons h
    simp [im_resx_len h2]
theorem im_resx_at {is : List Nat} {t : Nat} : ∀ {l z : List im_E}, im_resx is t l = some z → ∀ (p : Nat) (e : im_E), l[p]? = some e → ∃ x, im_rex is t e = some x ∧ z[p]? = some x
  | [], z, h, p, k, hk => by cases hk
  | v :: r, z, h, p, k, hk => by
    obtain ⟨x, y, h1, h2, rfl⟩ := im_resx_cons h
    cases p with
    | zero =>
      cases hk
      exact ⟨x, h1, rfl⟩
    | succ p => exact im_resx_at h2 p k hk
section ImX
variable {is : List Nat} {n t m : Nat}
def im_isx (is : List Nat) (n t : Nat) : List Nat := is ++ [n + 3 * t, n + 3 * t + 1, n + 3 * t + 2]
theorem im_isx_len : (im_isx is n t).length = is.length + 3 := by unfold im_isx; rw [List.length_append]; rfl
theorem im_pX {k j : Nat} (hl : is.length < 1000) (h : im_pi is k = some j) : ab_pi (im_isx is n t) m k = j := by
  unfold im_pi at h
  unfold ab_pi
  rw [im_isx_len]
  cases e : is[k]? with
  | some x =>
    rw [e] at h
    cases h
    have hk := (List.getElem?_eq_some_iff.mp e).1
    rw [if_pos (by omega), List.getD_eq_getElem?_getD]
    unfold im_isx
    rw [List.getElem?_append_left hk, e]
    rfl
  | none =>
    rw [e] at h
    dsimp only at h
    by_cases h5 : k < 500000
    · rw [if_pos h5] at h
      cases h
    · rw [if_neg h5] at h
      rw [if_neg (by omega), if_neg h5]
      by_cases h6 : k < 510000
      · rw [if_pos h6] at h ⊢
        exact Option.some.inj h
      · rw [if_neg h6] at h ⊢
        by_cases h7 : k < 1000000
        · rw [if_pos h7] at h ⊢
          exact Option.some.inj h
        · rw [if_neg h7] at h ⊢
          exact Option.some.inj h
theorem im_isx_at {x : Nat} (hx : x < 3) : (im_isx is n t)[is.length + x]? = some (n + 3 * t + x) := by
  unfold im_isx
  rw [List.getElem?_append_right (by omega), show is.length + x - is.length = x by omega]
  match x, hx with
  | 0, _ => rfl
  | 1, _ => rfl
  | 2, _ => rfl
theorem im_pX2 {x : Nat} (hx : x < 3) : ab_pi (im_isx is n t) m (is.length + x) = n + 3 * t + x := by
  unfold ab_pi
  rw [im_isx_len, if_pos (by omega), List.getD_eq_getElem?_getD, im_isx_at hx]
  rfl
theorem im_rvx_ok (hl : is.length < 1000) (ht : t < 1000) {n' : Nat} {v v' : im_V} (h : im_rvx is t v = some v') : ab_rv (ab_pi (im_isx is n t) m) (im_v n' v) = im_v n v' := by
  match v, h with
  | .inl x, h => cases h; rfl
  | .inr (.inl x), h => cases h; rfl
  | .inr (.inr (.inl none)), h => cases h; rfl
  | .inr (.inr (.inr t)), h => cases h
  | .inr (.inr (.inl (some k))), h =>
    unfold im_rvx at h
    dsimp only at h
    by_cases e : k = is.length
    · rw [if_pos e] at h
      cases h
      show Value.ref (ab_pi _ _ k) = Value.ref (n + 3 * min t 100000)
      rw [e, show ab_pi (im_isx is n t) m is.length = n + 3 * t + 0 from im_pX2 (x := 0) (by omega), show min t 100000 = t by omega]
      rfl
    · rw [if_neg e] at h
      split at h
      · rename_i j hj
        cases h
        show Value.ref (ab_pi _ _ k) = Value.ref j
        rw [im_pX hl hj]
      · cases h
theorem im_rvsx_ok (hl : is.length < 1000) (ht : t < 1000) {n' : Nat} : ∀ {l l' : List im_V}, im_rvsx is t l = some l' → (im_k n' l).map (ab_rv (ab_pi (im_isx is n t) m)) = im_k n l'
  | [], l', h => by cases h; rfl
  | v :: r, l', h => by
    unfold im_rvsx at h
    split at h
    · rename_i x y h1 h2
      cases h
      show ab_rv _ (im_v n' v) :: (im_k n' r).map _ = im_v n x :: im_k n y
      rw [im_rvx_ok hl ht h1, im_rvsx_ok hl ht h2]
    · cases h
theorem im_rex_ok (hl : is.length < 1000) (ht : t < 1000) {n' : Nat} {e e' : im_E} (h : im_rex is t e = some e') : ab_re (ab_pi (im_isx is n t) m) id (im_e n' e) = im_e n e' := by
  match e, h with
  | .inl (c, fs), h =>
    unfold im_rex at h
    dsimp only at h
    split at h
    · rename_i z hz
      cases h
      show Sum.inr (c, (im_k n' fs).map _) = Sum.inr (c, im_k n z)
      rw [im_rvsx_ok hl ht hz]
    · cases h
  | .inr (q, m2, .inl f), h =>
    cases h
    show ab_re _ id (cond (Nat.beq q 2) _ _) = cond (Nat.beq q 2) _ _
    cases Nat.beq q 2 with
    | true => rfl
    | false => rfl
  | .inr (q, m2, .inr (.inl g)), h => cases h
  | .inr (q, m2, .inr (.inr g)), h => cases h
/-- a text's three cells in the tail -/
def im_xc (m : Nat) (t : im_T) : ab_W := [.inr (7, [.ref (m + 1), .ref (m + 2), .int (Int32.ofInt t.1.1), .int (Int32.ofInt t.1.2.1), .int (Int32.ofInt t.1.2.2)]), .inl (0, t.2.1.1, .inl (fun k => Int32.ofInt (t.2.1.2 (k : Int)))), .inl (0, t.2.2.1, .inl (fun k => Int32.ofInt (t.2.2.2 (k : Int))))]
theorem im_tc_at : ∀ {T : List im_T} {m t : Nat} {q : im_T}, T[t]? = some q → ∀ x, x < 3 → (im_tc m T)[3 * t + x]? = (im_xc (m + 3 * t) q)[x]?
  | [], m, t, q, h, x, hx => by cases h
  | p :: r, m, 0, q, h, x, hx => by
    cases h
    match x, hx with
    | 0, _ => rfl
    | 1, _ => rfl
    | 2, _ => rfl
  | p :: r, m, t + 1, q, h, x, hx => by
    have e := im_tc_at (T := r) (m := m + 3) (t := t) (q := q) h x hx
    rw [show m + 3 * (t + 1) = m + 3 + 3 * t by omega, ← e, show 3 * (t + 1) + x = 3 * t + x + 1 + 1 + 1 by omega]
    rfl
theorem im_isx_is {T : List im_T} {w wc z : im_W} {q : im_T} (hn : w.length = n) (hc : wc.length = is.length) (hl : is.length < 1000) (hT : T.length < 1000) (hq : T[t]? = some q) (h1 : im_resx is t wc = some z) (h2 : im_get w is = some z) : (im_isx is n t).map (fun i => (im_w n T w)[i]?) = (wc.map (im_e (is.length + 3)) ++ im_xc is.length q).map (fun e => some (ab_re (ab_pi (im_isx is n t) m) id e)) := by
  have ht : t < T.length := (List.getElem?_eq_some_iff.mp hq).1
  rw [List.map_append, show im_isx is n t = is ++ [n + 3 * t, n + 3 * t + 1, n + 3 * t + 2] from rfl, List.map_append]
  have ha : is.map (fun i => (im_w n T w)[i]?) = (wc.map (im_e (is.length + 3))).map (fun e => some (ab_re (ab_pi (im_isx is n t) m) id e)) := by
    apply List.ext_getElem?
    intro p
    rw [List.getElem?_map, List.getElem?_map, List.getElem?_map]
    cases e1 : is[p]? with
    | none =>
      have : is.length ≤ p := List.getElem?_eq_none_iff.mp e1
      rw [List.getElem?_eq_none (show wc.length ≤ p by omega)]
      rfl
    | some k =>
      have hp := (List.getElem?_eq_some_iff.mp e1).1
      obtain ⟨g1, g2⟩ := im_get_at h2 p k e1
      have hpc : p < wc.length := by omega
      obtain ⟨x, g3, g4⟩ := im_resx_at h1 p _ (List.getElem?_eq_getElem hpc)
      rw [List.getElem?_eq_getElem hpc]
      show some ((im_w n T w)[k]?) = some (some (ab_re _ id (im_e _ wc[p])))
      rw [im_rex_ok hl (by omega) g3, im_w_old g2, g1, g4]
      rfl
  have hb : ∀ x, x < 3 → (im_w n T w)[n + 3 * t + x]? = (im_xc (n + 3 * t) q)[x]? := by
    intro x hx
    rw [show n + 3 * t + x = w.length + (3 * t + x) by omega, im_w_new]
    exact im_tc_at hq x hx
  have hr : ab_rv (ab_pi (im_isx is n t) m) (.ref (is.length + 1)) = .ref (n + 3 * t + 1) := congrArg Value.ref (im_pX2 (x := 1) (by omega))
  have hr2 : ab_rv (ab_pi (im_isx is n t) m) (.ref (is.length + 2)) = .ref (n + 3 * t + 2) := congrArg Value.ref (im_pX2 (x := 2) (by omega))
  have h0 := hb 0 (by omega)
  have h1' := hb 1 (by omega)
  have h2' := hb 2 (by omega)
  rw [show is ++ [n + 3 * t, n + 3 * t + 1, n + 3 * t + 2] = im_isx is n t from rfl, ← ha]
  refine congrArg (fun z => is.map (fun i => (im_w n T w)[i]?) ++ z) ?_
  show [(im_w n T w)[n + 3 * t]?, (im_w n T w)[n + 3 * t + 1]?, (im_w n T w)[n + 3 * t + 2]?] = [some (.inr (7, [ab_rv (ab_pi (im_isx is n t) m) (.ref (is.length + 1)), ab_rv (ab_pi (im_isx is n t) m) (.ref (is.length + 2)), _, _, _])), _, _]
  rw [h1', h2', show n + 3 * t = n + 3 * t + 0 from rfl, h0, hr, hr2]
  rfl
theorem im_isx_nd {w z : im_W} (hn : w.length = n) (h2 : im_get w is = some z) (h3 : is.Nodup) : (im_isx is n t).Nodup := by
  refine List.nodup_append.mpr ⟨h3, by simp, fun a ha b hb e => ?_⟩
  obtain ⟨p, hp⟩ := List.getElem?_of_mem ha
  have h4 := (im_get_at h2 p a hp).2
  rcases List.mem_cons.mp hb with h5 | h5
  · omega
  rcases List.mem_cons.mp h5 with h5 | h5
  · omega
  rcases List.mem_cons.mp h5 with h5 | h5
  · omega
  · cases h5
theorem im_putx {T : List im_T} {w wc w1 z z1 : im_W} {q : im_T} (hn : w.length = n) (hc1 : w1.length = is.length) (hcl : wc.length = is.length) (hl : is.length < 1000) (hT : T.length < 1000) (hq : T[t]? = some q) (h2 : im_get w is = some z) (h3 : is.Nodup) (h4 : im_resx is t w1 = some z1) : ab_put (im_isx is n t) (wc.map (im_e (is.length + 3)) ++ im_xc is.length q).length (im_w n T w) (w1.map (im_e (is.length + 3)) ++ im_xc is.length q) (ab_pi (im_isx is n t) m) = im_w n T (im_puts w is z1) := by
  have ht : t < T.length := (List.getElem?_eq_some_iff.mp hq).1
  have e3 : (im_xc is.length q).length = 3 := rfl
  unfold ab_put
  rw [List.drop_eq_nil_of_le (by rw [List.length_append, List.length_append, List.length_map, List.length_map]; omega), List.map_nil, List.append_nil]
  apply List.ext_getElem?
  intro i
  rw [ab_mi_get, Nat.zero_add]
  have hpl : (im_puts w is z1).length = n := by rw [im_puts_len]; exact hn
  by_cases hi : i < n + 3 * T.length
  · have hwi : i < (im_w n T w).length := by rw [im_w_len]; omega
    cases hx : ab_ix (im_isx is n t) i 0 with
    | none =>
      have hni := ab_ix_none hx
      have h5 : i ∉ is := fun q => hni (List.mem_append_left _ q)
      rw [List.getElem?_eq_getElem hwi]
      simp only [Option.map_some, hx]
      rw [← List.getElem?_eq_getElem hwi]
      by_cases h6 : i < n
      · rw [im_w_old (by omega), im_w_old (by omega), im_puts_out h5]
      · rw [show (im_w n T w)[i]? = (im_w n T w)[w.length + (i - n)]? by congr 1; omega, im_w_new, show (im_w n T (im_puts w is z1))[i]? = (im_w n T (im_puts w is z1))[(im_puts w is z1).length + (i - n)]? by congr 1; omega, im_w_new]
    | some j =>
      obtain ⟨j', hj1, hj2⟩ := ab_ix_some hx
      have hj : j = j' := by omega
      subst hj
      rw [List.getElem?_eq_getElem hwi]
      simp only [Option.map_some, hx]
      by_cases hjl : j < is.length
      · unfold im_isx at hj2
        rw [List.getElem?_append_left hjl] at hj2
        obtain ⟨g1, g2⟩ := im_get_at h2 j i hj2
        have hj3 : j < w1.length := by omega
        obtain ⟨x, g3, g4⟩ := im_resx_at h4 j _ (List.getElem?_eq_getElem hj3)
        rw [List.getElem?_append_left (by rw [List.length_map]; omega), List.getElem?_map, List.getElem?_eq_getElem hj3, im_w_old (by omega), im_puts_in h3 g2 hj2 g4]
        show some (ab_re _ id (im_e _ w1[j])) = some (im_e n x)
        rw [im_rex_ok hl (by omega) g3]
      · have hj5 : j < is.length + 3 := by
          have := (List.getElem?_eq_some_iff.mp hj2).1
          rw [im_isx_len] at this
          exact this
        obtain ⟨x, rfl⟩ : ∃ x, j = is.length + x := ⟨j - is.length, by omega⟩
        have hx3 : x < 3 := by omega
        rw [im_isx_at hx3] at hj2
        have hi2 : i = n + 3 * t + x := by
          have e : n + 3 * t + x = i := by injection hj2
          omega
        subst hi2
        have hr : ab_rv (ab_pi (im_isx is n t) m) (.ref (is.length + 1)) = .ref (n + 3 * t + 1) := congrArg Value.ref (im_pX2 (x := 1) (by omega))
        have hr2 : ab_rv (ab_pi (im_isx is n t) m) (.ref (is.length + 2)) = .ref (n + 3 * t + 2) := congrArg Value.ref (im_pX2 (x := 2) (by omega))
        rw [List.getElem?_append_right (by rw [List.length_map]; omega), List.length_map, show is.length + x - w1.length = x by omega, show (im_w n T (im_puts w is z1))[n + 3 * t + x]? = (im_w n T (im_puts w is z1))[(im_puts w is z1).length + (3 * t + x)]? by congr 1; omega, im_w_new, im_tc_at hq x hx3]
        match x, hx3 with
        | 0, _ =>
          show some (Sum.inr (7, [ab_rv _ (.ref (is.length + 1)), ab_rv _ (.ref (is.length + 2)), _, _, _])) = _
          rw [hr, hr2]
          rfl
        | 1, _ => rfl
        | 2, _ => rfl
  · rw [List.getElem?_eq_none (by rw [im_w_len]; omega), List.getElem?_eq_none (by rw [im_w_len]; omega)]
    rfl
end ImX
section ImD2
variable {ro : ab_R} {own d : Nat} {ret : Option FieldType} {code : ab_C} {n : Nat} {T : List im_T} {Q : Option im_V → im_W → Prop}
theorem im_xc_w {n0 : Nat} {wc : im_W} {q : im_T} (h : wc.length = n0) : im_w (n0 + 3) [] (wc ++ XC n0 q.1 q.2.1.1 q.2.1.2 q.2.2.1 q.2.2.2) = wc.map (im_e (n0 + 3)) ++ im_xc n0 q := by
  unfold im_w
  rw [List.map_append]
  show _ ++ ([]) = _
  rw [List.append_nil]
  rfl
theorem im_callx (is : List Nat) {t : Nat} {q : im_T} (hq : T[t]? = some q) {pc t0 j : Nat} {i : Instr} {L : im_L} {st as as' r : List im_V} {w wc z : im_W} {K : Option im_V → im_W → Prop} (hc : code pc = some (i, t0)) (hca : im_ca own i st w = some (j, as, r)) (hct : im_ct ro [] d j as' (wc ++ XC is.length q.1 q.2.1.1 q.2.1.2 q.2.2.1 q.2.2.2) K) (h1 : im_rvsx is t as' = some as) (h2 : im_resx is t wc = some z) (h3 : im_get w is = some z) (h4 : is.Nodup) (hn : w.length = n) (hl : is.length < 1000) (hT : T.length < 1000)
    (k : ∀ v w1, K v w1 → ∃ w1' v2 z1 w2, w1 = w1' ++ XC is.length q.1 q.2.1.1 q.2.1.2 q.2.2.1 q.2.2.2 ∧ im_rvox is t v = some v2 ∧ im_resx is t w1' = some z1 ∧ im_putm is z1 0 w = w2 ∧ im_wp ro (ab_Ev ro ab_codes d) own ret code n T Q (pc + 3, L, v2.toList ++ r, w2)) : im_wp ro (ab_Ev ro ab_codes d) own ret code n T Q (pc, L, st, w) := by
  obtain ⟨v, w1, hE, hw1, hK⟩ := hct
  obtain ⟨w1', v2, z1, w2, rfl, g1, g2, g3, kk⟩ := k v w1 hK
  have hwc : wc.length = is.length := by rw [← im_resx_len h2, im_get_len h3]
  have hxl : (XC is.length q.1 q.2.1.1 q.2.1.2 q.2.2.1 q.2.2.2).length = 3 := rfl
  have hw1' : w1'.length = is.length := by
    rw [List.length_append, List.length_append] at hw1
    omega
  rw [← im_puts_m h4 (by rw [im_resx_len g2, hw1']) (fun i hi => by
    obtain ⟨p, hp⟩ := List.getElem?_of_mem hi
    exact (im_get_at h3 p i hp).2)] at g3
  subst g3
  obtain ⟨o, m, hX, hQ⟩ := kk
  have hL : (wc ++ XC is.length q.1 q.2.1.1 q.2.1.2 q.2.2.1 q.2.2.2).length = is.length + 3 := by rw [List.length_append, hwc, hxl]
  have ht : t < T.length := (List.getElem?_eq_some_iff.mp hq).1
  rw [hL, im_xc_w hwc, im_xc_w hw1'] at hE
  have hN : (im_w n T w).length = n + 3 * T.length := by rw [im_w_len, hn]
  refine ⟨o, m + 1, ⟨i, t0, hc, Or.inr (Or.inr (Or.inr ⟨j, im_k n as, im_k n r, im_ca_ok hca, im_isx is n t, im_k (is.length + 3) as', wc.map (im_e (is.length + 3)) ++ im_xc is.length q, w1'.map (im_e (is.length + 3)) ++ im_xc is.length q, v.map (im_v (is.length + 3)), 0, 0, hE, ?_, ?_, im_isx_nd hn h3 h4, ?_, ?_⟩))⟩, hQ⟩
  · rw [im_rvsx_ok hl (by omega) h1]
  · exact im_isx_is hn hwc hl hT hq h2 h3
  · rw [List.length_append, List.length_map, show (im_xc is.length q).length = 3 from rfl]; omega
  · rw [im_putx hn hw1' hwc hl hT hq h3 h4 g2]
    have e : (v.map (im_v (is.length + 3))).map (ab_rv (ab_pi (im_isx is n t) (im_w n T w).length)) = v2.map (im_v n) := by
      cases v with
      | none => cases g1; rfl
      | some x =>
        unfold im_rvox at g1
        dsimp only at g1
        split at g1
        · rename_i y hy
          cases g1
          show some (ab_rv _ (im_v _ x)) = some (im_v n y)
          rw [im_rvx_ok hl (by omega) hy]
        · cases g1
    rw [e]
    have e2 : (v2.map (im_v n)).toList ++ im_k n r = im_k n (v2.toList ++ r) := by
      cases v2 with
      | none => rfl
      | some x => rfl
    rw [e2]
    exact hX
end ImD2
